/**
 * The calls on one new object, each answer compared with the one that is due. A run ends at the 512th
 * call: what later ones answer is free, so that no test may ask for it.
 */
final class Run {
    static final int MOST_CALLS = 512;
    /** What a call answers here that throws; no call of the face answers it. */
    private static final long THROWN = Long.MIN_VALUE;
    private static final int MOST_PARTS = 13;

    interface Call {
        long on(PostTariff tariff);
    }

    private final Check check;
    private final PostTariff tariff = new PostTariff();
    private final StringBuilder past = new StringBuilder();
    private int calls;

    Run(Check check) {
        this.check = check;
    }

    int left() {
        return MOST_CALLS - calls;
    }

    private long ask(Call call) {
        if (calls >= MOST_CALLS) {
            throw new IllegalStateException("a test asks for a 513th call behind " + past);
        }
        calls++;
        try {
            return call.on(tariff);
        } catch (RuntimeException thrown) {
            return THROWN;
        }
    }

    private long tell(String name, Call call) {
        past.append(name).append("; ");
        return ask(call);
    }

    private Run due(String name, Call call, long want) {
        check.due(past + name, ask(call), want);
        past.append(name).append("; ");
        return this;
    }

    Run sign(int c) {
        check.due(past + "sign(" + c + ")", ask(x -> {
            x.sign(c);
            return 0;
        }), 0);
        past.append(c >= ' ' && c <= '~' ? String.valueOf((char) c) : "<" + c + ">");
        return this;
    }

    Run text(String text) {
        for (int i = 0; i < text.length(); i++) {
            sign(text.charAt(i));
        }
        return this;
    }

    Run read(long want) {
        return due(" read()", x -> x.read(), want);
    }

    /** A text of so many rows, and an edition. */
    Run edition(String text) {
        return text(text).read(text.isEmpty() ? 0 : text.split(";").length);
    }

    Run fault(String text, int place) {
        return text(text).read(-1 - place);
    }

    Run item(int kind, int weight, int width, int height, int depth, long want) {
        return due("item(" + kind + ", " + weight + ", " + width + ", " + height + ", " + depth + ")",
                x -> x.item(kind, weight, width, height, depth), want);
    }

    Run service(int item, int s, long want) {
        return due("service(" + item + ", " + s + ")", x -> x.service(item, s), want);
    }

    Run price(int item, int zone, long day, long want) {
        return due("price(" + item + ", " + zone + ", " + day + ")", x -> x.price(item, zone, day), want);
    }

    Run least(int item, int zone, long day, long want) {
        return due("least(" + item + ", " + zone + ", " + day + ")", x -> x.least(item, zone, day), want);
    }

    Run explain(int i, int what, long want) {
        return due("explain(" + i + ", " + what + ")", x -> x.explain(i, what), want);
    }

    Run dimensional(long volume, long divisor, long want) {
        return due("dimensional(" + volume + ", " + divisor + ")", x -> x.dimensional(volume, divisor), want);
    }

    /** It throws the exception itself, and not the machine for it. */
    Run dimensionalThrows(long volume, long divisor) {
        return due("dimensional(" + volume + ", " + divisor + ")", x -> {
            try {
                return x.dimensional(volume, divisor);
            } catch (ArithmeticException thrown) {
                boolean own = thrown.getClass() == ArithmeticException.class && !"/ by zero".equals(thrown.getMessage());
                return own ? -77 : -78;
            }
        }, -77);
    }

    Run compare(int edition, long want) {
        return due("compare(" + edition + ")", x -> x.compare(edition), want);
    }

    Run print(long want) {
        return due("print()", x -> x.print(), want);
    }

    Run at(int i, long want) {
        return due("at(" + i + ")", x -> x.at(i), want);
    }

    /** The parts that explain tells, as "sort adds number", parted by commas; and none behind them. */
    Run parts(String want) {
        check.due(past + "the parts", partsTold(), want);
        return this;
    }

    String partsTold() {
        StringBuilder parts = new StringBuilder();
        for (int i = 0; i <= MOST_PARTS; i++) {
            int part = i;
            long sort = tell("explain(" + i + ", 0)", x -> x.explain(part, 0));
            long adds = tell("explain(" + i + ", 1)", x -> x.explain(part, 1));
            long number = tell("explain(" + i + ", 2)", x -> x.explain(part, 2));
            if (sort == PostTariff.NONE && adds == PostTariff.NONE && number == PostTariff.NONE) {
                break;
            }
            parts.append(i == 0 ? "" : ",").append(sort).append(' ').append(adds).append(' ').append(number);
        }
        return parts.toString();
    }

    /** The signs that at tells, up to the first NONE. */
    Run signs(String want) {
        check.due(past + "the signs printed", signsTold(), want);
        return this;
    }

    String signsTold() {
        StringBuilder signs = new StringBuilder();
        for (int i = 0; i < MOST_CALLS; i++) {
            int place = i;
            long sign = tell("at(" + i + ")", x -> x.at(place));
            if (sign == PostTariff.NONE) {
                break;
            }
            signs.append(sign > 0 && sign < 127 ? String.valueOf((char) sign) : "<" + sign + ">");
        }
        return signs.toString();
    }

    Run printed(String want) {
        return print(want.length()).signs(want);
    }

    /** An answer that is compared by the caller. */
    long answer(String name, Call call) {
        return tell(name, call);
    }
}
