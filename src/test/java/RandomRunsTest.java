import java.util.Random;

/**
 * Runs of calls from a written seed, so always the same ones, each answer compared with the model's.
 * A run ends before the 513th call of its object, whose answer is free.
 */
public final class RandomRunsTest {
    private static final int RUNS = 30000;
    private static final int[] ODD = {-1, 0, 1, 9, 10, 11, 13, 99, 100, 1000, 1001, 100000, 100001, 9999999, 10000000,
        Integer.MIN_VALUE, Integer.MAX_VALUE};
    private static final long MOST_VOLUME = 1_000_000_000_000_000L;
    private static final long[] ODD_VOLUMES = {0, 0, 1, -1, MOST_VOLUME - 1, MOST_VOLUME, MOST_VOLUME + 1, Long.MIN_VALUE,
        Long.MAX_VALUE};

    private final Check check = new Check("RandomRunsTest");
    private final Random random = new Random(20261119);
    private PostTariff tariff;
    private Model model;
    private int left;
    private int read;
    private int faultless;
    private int priced;

    public static void main(String[] args) {
        RandomRunsTest test = new RandomRunsTest();
        for (int run = 0; run < RUNS; run++) {
            test.run(run);
        }
        System.out.println("texts read: " + test.read + ", faultless: " + test.faultless + ", priced: " + test.priced);
        test.check.due("enough texts are faultless", test.faultless > test.read / 5 ? 1 : 0, 1);
        test.check.due("enough texts are faulty", test.faultless < test.read * 4 / 5 ? 1 : 0, 1);
        test.check.due("enough prices are told", test.priced > RUNS / 2 ? 1 : 0, 1);
        test.check.end();
    }

    private void run(int run) {
        tariff = new PostTariff();
        model = new Model();
        left = Run.MOST_CALLS;
        int items = 1 + below(6);
        for (int i = 0; i < items; i++) {
            makeItem("run " + run + ", first: ");
        }
        if (below(20) > 0) {
            readText("run " + run + ", first: ");
        }
        for (int i = 0; left > 0 && i < Run.MOST_CALLS; i++) {
            call("run " + run + ", step " + i + ": ");
        }
    }

    /** Whether so many calls more may be made; if not, the run is at its end. */
    private boolean mayCall(int calls) {
        left = calls <= left ? left - calls : -1;
        return left >= 0;
    }

    private int below(int bound) {
        return random.nextInt(bound);
    }

    private int odd(int ordinary) {
        return below(25) == 0 ? ODD[below(ODD.length)] : ordinary;
    }

    private void call(String where) {
        int item = odd(below(4));
        int zone = odd(below(3));
        long day = below(30) == 0 ? below(2) == 0 ? Long.MIN_VALUE : Long.MAX_VALUE : odd(below(8));
        switch (below(11)) {
            case 0:
                if (below(4) == 0) {
                    readText(where);
                }
                break;
            case 9:
                divide(where, volume(), volume());
                break;
            case 1:
                makeItem(where);
                break;
            case 2:
                int s = odd(below(4));
                if (mayCall(1)) {
                    check.due(where + "service", tariff.service(item, s), model.service(item, s));
                }
                break;
            case 3:
            case 4:
            case 5:
            case 6:
                if (mayCall(1)) {
                    long want = model.price(item, zone, day);
                    priced += want >= 0 ? 1 : 0;
                    check.due(where + "price", tariff.price(item, zone, day), want);
                    checkParts(where);
                }
                break;
            case 7:
                if (mayCall(1)) {
                    check.due(where + "least", tariff.least(item, zone, day), model.least(item, zone, day));
                    checkParts(where);
                }
                break;
            case 8:
                int edition = odd(below(6));
                if (mayCall(1)) {
                    check.due(where + "compare", tariff.compare(edition), model.compare(edition));
                }
                break;
            default:
                printText(where);
                break;
        }
    }

    /** Of any length, and seldom 0, below it, or above 10^15. */
    private long volume() {
        if (below(20) == 0) {
            return ODD_VOLUMES[below(ODD_VOLUMES.length)];
        }
        return random.nextLong() >>> 14 + below(50);
    }

    private void divide(String where, long volume, long divisor) {
        if (!mayCall(1)) {
            return;
        }
        String call = where + "dimensional(" + volume + ", " + divisor + ")";
        try {
            check.due(call, tariff.dimensional(volume, divisor), model.dimensional(volume, divisor));
        } catch (ArithmeticException thrown) {
            check.due(call + " throws", divisor == 0 && volume >= 0 && volume <= MOST_VOLUME ? 1 : 0, 1);
        }
    }

    private void printText(String where) {
        if (below(4) > 0 || !mayCall(1)) {
            return;
        }
        int length = model.print();
        check.due(where + "print", tariff.print(), length);
        for (int i = -1; i <= length + 1 && mayCall(1); i++) {
            check.due(where + "at(" + i + ")", tariff.at(i), model.at(i));
        }
    }

    private void checkParts(String where) {
        int parts = 0;
        while (model.explain(parts, 0) != PostTariff.NONE) {
            parts++;
        }
        int i = odd(below(14));
        int what = odd(below(3));
        if (mayCall(1)) {
            check.due(where + "explain(" + i + ", " + what + ")", tariff.explain(i, what), model.explain(i, what));
        }
        for (int part = 0; part <= parts && mayCall(3); part++) {
            for (int of = 0; of <= 2; of++) {
                check.due(where + "explain(" + part + ", " + of + ")", tariff.explain(part, of), model.explain(part, of));
            }
        }
    }

    private void makeItem(String where) {
        int kind = odd(below(4));
        int weight = odd(1 + below(12));
        int width = odd(1 + below(5));
        int height = odd(1 + below(5));
        int depth = odd(1 + below(5));
        if (mayCall(1)) {
            check.due(where + "item", tariff.item(kind, weight, width, height, depth),
                    model.item(kind, weight, width, height, depth));
        }
    }

    private void readText(String where) {
        String text = below(30) == 0 ? "" : text();
        if (below(4) == 0) {
            text = spoiled(text);
        }
        if (!mayCall(text.length() + 1)) {
            return;
        }
        for (int i = 0; i < text.length(); i++) {
            tariff.sign(text.charAt(i));
            model.sign(text.charAt(i));
        }
        int want = model.read();
        read++;
        faultless += want >= 0 || want == PostTariff.ROOM ? 1 : 0;
        check.due(where + "read() of " + text, tariff.read(), want);
    }

    private String text() {
        StringBuilder text = new StringBuilder();
        int kinds = 1 + below(3);
        for (int k = 0; k < kinds; k++) {
            text.append(k > 0 ? ";" : "").append('K').append(number(below(5) == 0 ? below(10) : (k * 2 + below(2)) % 4));
            addKind(text);
        }
        return text.toString();
    }

    private void addKind(StringBuilder text) {
        int weight = 0;
        int steps = below(60) == 0 ? 0 : below(40) == 0 ? 10 + below(2) : 1 + below(3);
        for (int i = 0; i < steps; i++) {
            weight += (below(60) == 0 ? 0 : 1) + below(8);
            row(text, 'S', weight, below(300));
        }
        for (int z = 0; z < 3; z++) {
            if (below(4) > 0) {
                row(text, 'Z', below(60) == 0 ? below(4) : z, below(60) == 0 ? 999 + below(3) : below(120));
            }
        }
        int services = below(30) == 0 ? 9 : below(5);
        for (int s = 0; s < services; s++) {
            row(text, 'X', below(30) == 0 ? below(11) : s, below(99));
        }
        int pairs = below(30) == 0 ? 12 : services > 1 && below(3) == 0 ? 1 + below(2) : 0;
        for (int i = 0; i < pairs; i++) {
            boolean any = services < 2 || below(4) == 0;
            int s = below(any ? services + 1 : services);
            row(text, 'E', s, any ? below(services + 1) : (s + 1 + below(services - 1)) % services);
        }
        addLimits(text);
    }

    private void addLimits(StringBuilder text) {
        if (below(5) == 0) {
            row(text, 'D', (below(20) == 0 ? 0 : 1) + below(6), 1 + below(6), 1 + below(6));
        }
        if (below(3) == 0) {
            row(text, 'M', below(20) == 0 ? 0 : 1 + below(9));
        }
        if (below(4) == 0) {
            int first = below(4);
            row(text, 'F', first, below(20) == 0 ? below(4) : first + below(8));
        }
        if (below(3) == 0) {
            row(text, 'R', below(20) == 0 ? below(1003) : 1 + below(50));
        }
        if (below(20) == 0) {
            row(text, "DMFR".charAt(below(4)), 1);
        }
    }

    private void row(StringBuilder text, char letter, int... numbers) {
        text.append(';').append(letter);
        for (int i = 0; i < numbers.length; i++) {
            text.append(i > 0 ? " " : "").append(number(numbers[i]));
        }
    }

    private String number(int value) {
        return below(20) > 0 ? String.valueOf(value) : String.format("%0" + (1 + below(7)) + "d", value);
    }

    private String spoiled(String text) {
        if (text.isEmpty()) {
            return text;
        }
        StringBuilder signs = new StringBuilder(text);
        String others = "0123456789 ;KSZXEDMFRx\u0000~";
        int i = below(signs.length());
        switch (below(4)) {
            case 0:
                signs.deleteCharAt(i);
                break;
            case 1:
                signs.insert(i, others.charAt(below(others.length())));
                break;
            case 2:
                signs.setCharAt(i, others.charAt(below(others.length())));
                break;
            default:
                signs.setLength(i);
                break;
        }
        return signs.toString();
    }
}
