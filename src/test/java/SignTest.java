/** Promise 2: sign takes the characters 0 .. 126, and 1500 of them. */
public final class SignTest {
    public static void main(String[] args) {
        Check check = new Check("SignTest");
        checkWhichAreTaken(check);
        checkRoom(check);
        check.end();
    }

    private static void checkWhichAreTaken(Check check) {
        int[] others = {-1, 127, 128, 256 + 'K', Integer.MIN_VALUE, Integer.MAX_VALUE, -'K', 65536 + 'K'};
        for (int c : others) {
            PostTariff tariff = new PostTariff();
            Check.sign(tariff, "K1;S1");
            tariff.sign(c);
            check.due("read() past sign(" + c + ")", Check.read(tariff, " 5"), 2);
        }
        for (int c = 0; c <= 126; c++) {
            PostTariff tariff = new PostTariff();
            Check.sign(tariff, "K1;S1 5");
            tariff.sign(c);
            int want = c >= '0' && c <= '9' ? 2 : c == ';' ? -9 : -8;
            check.due("read() behind sign(" + c + ")", tariff.read(), want);
        }
    }

    private static void checkRoom(Check check) {
        String text = longestText();
        check.due("the text's length", text.length(), 1500);
        PostTariff tariff = new PostTariff();
        check.due("read() of 1500 signs", Check.read(tariff, text), 90);
        check.due("read() of 1500 signs and one more", Check.read(tariff, text + "x"), 90);
        check.due("read() of 1500 signs and 99 more", Check.read(tariff, text + "9".repeat(99)), 90);
        check.due("read() of 1499 signs and two more", Check.read(tariff, text.substring(0, 1499) + ";x"), -1501);
        check.due("read() of the text behind", Check.read(tariff, "K1;S1 5"), 2);
    }

    /** A faultless text of 1500 signs and 90 rows. */
    static String longestText() {
        StringBuilder text = new StringBuilder();
        for (int k = 0; k < 3; k++) {
            text.append(k > 0 ? ";" : "").append(String.format("K%07d", k));
            addRows(text, "S", 10);
            addRows(text, "Z", 10);
            addRows(text, "X", k < 2 ? 10 : 6);
        }
        return text.append(";F0000 00001").toString();
    }

    private static void addRows(StringBuilder text, String letter, int count) {
        for (int i = 0; i < count; i++) {
            text.append(String.format(";%s%07d %07d", letter, letter.equals("S") ? i + 1 : i, i));
        }
    }
}
