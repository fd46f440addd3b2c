/** Asks what single texts tell: each is the first one of a new object. */
final class Texts {
    /** Every kind of row once or more, each number of one digit, in the order in which it is printed. */
    static final String ALL_ROWS = "K1;S5 6;S7 0;Z0 7;X1 8;X2 9;E1 2;D3 4 5;M6;F7 8;R9;K2;S1 1";
    static final String LETTERS = "KSZXEDMFR";

    /** One number of a row: the text before it, the text behind it, and from where to where it goes. */
    record Number(String name, String before, String behind, int least, int greatest) {
        int place() {
            return before.length();
        }

        String text(String digits) {
            return before + digits + behind;
        }

        /** The text as it is printed: of the services of an E the lesser one stands first. */
        String printed(int value) {
            boolean turned = behind.equals(OTHER_SERVICE) && value > 4;
            return turned ? before + OTHER_SERVICE.charAt(1) + ' ' + value : before + value + behind;
        }
    }

    private static final int ANY = 9999999;
    private static final String ALL_SERVICES = "K1;S1 1;X0 0;X1 0;X2 0;X3 0;X4 0;X5 0;X6 0;X7 0;X8 0;X9 0";
    private static final String OTHER_SERVICE = " 4";
    /** The limits are the document's. */
    static final Number[] NUMBERS = {
        new Number("k of K", "K", ";S1 1", 0, 9),
        new Number("w of S", "K1;S", " 1", 1, ANY),
        new Number("c of S", "K1;S1 ", "", 0, ANY),
        new Number("z of Z", "K1;S1 1;Z", " 1", 0, 9),
        new Number("p of Z", "K1;S1 1;Z1 ", "", 0, 1000),
        new Number("s of X", "K1;S1 1;X", " 1", 0, 9),
        new Number("c of X", "K1;S1 1;X1 ", "", 0, ANY),
        new Number("s of E", ALL_SERVICES + ";E", OTHER_SERVICE, 0, 9),
        new Number("t of E", ALL_SERVICES + ";E0 ", "", 1, 9),
        new Number("a of D", "K1;S1 1;D", " 1 1", 1, ANY),
        new Number("b of D", "K1;S1 1;D1 ", " 1", 1, ANY),
        new Number("c of D", "K1;S1 1;D1 1 ", "", 1, ANY),
        new Number("n of M", "K1;S1 1;M", "", 1, ANY),
        new Number("a of F", "K1;S1 1;F", " 9999999", 0, ANY),
        new Number("b of F", "K1;S1 1;F0 ", "", 0, ANY),
        new Number("n of R", "K1;S1 1;R", "", 1, 1000)};

    private final Check check;

    Texts(Check check) {
        this.check = check;
    }

    /** The text has no fault: it is an edition, and empty then. */
    void rows(String text, int want) {
        new Run(check).text(text).read(want).compare(0, 0).compare(1, PostTariff.UNKNOWN)
                .read(0).compare(1, 0).compare(2, PostTariff.UNKNOWN);
    }

    /** The text has a fault at a place: it is no edition, and empty then. */
    void fault(String text, int place) {
        new Run(check).fault(text, place).compare(0, PostTariff.UNKNOWN).print(PostTariff.STATE)
                .read(0).compare(0, 0).print(0);
    }

    void printed(String text, String want) {
        new Run(check).edition(text).printed(want);
    }

    static int rowsOf(String text) {
        return text.isEmpty() ? 0 : text.split(";", -1).length;
    }

    /** A text's rows from one number to another, as S1 0;S2 0;S3 0. */
    static String manyRows(String letter, int from, int to, String rest) {
        StringBuilder rows = new StringBuilder();
        for (int i = from; i <= to; i++) {
            rows.append(i > from ? ";" : "").append(letter).append(i).append(rest);
        }
        return rows.toString();
    }
}
