/** The table of the rows: each number's least and greatest value, what stands once, and how many. */
public final class RowEdgesTest {
    private static final String TEN_KINDS = Texts.manyRows("K", 0, 9, ";S1 1");
    private static final String ONE_KIND = "K1;S1 1;";
    private static final String FIVE_SERVICES = ONE_KIND + Texts.manyRows("X", 0, 4, " 0");
    private static final String NINE_PAIRS = FIVE_SERVICES + ";E0 1;E0 2;E0 3;E0 4;E1 2;E1 3;E1 4;E2 3;E2 4";
    private static final String TWO_SERVICES = ONE_KIND + "X1 7;X2 8";

    private final Check check = new Check("RowEdgesTest");
    private final Texts texts = new Texts(check);

    public static void main(String[] args) {
        RowEdgesTest test = new RowEdgesTest();
        test.eachNumberHasItsLimits();
        test.eachKindOnce();
        test.rowsAreOfTheirKind();
        test.thereIsNoneBeforeTheFirstKind();
        test.aKindHasAtLeastOneStep();
        test.aStepIsAboveTheOneBefore();
        test.tenStepsAtMost();
        test.eachZoneOnce();
        test.eachServiceOnce();
        test.exclusionOfAnotherService();
        test.bothInXRowsBefore();
        test.tenExclusionsAtMost();
        test.eachExclusionOnce();
        test.fromDayToDay();
        test.eachOfTheseFourOnce();
        test.check.end();
    }

    /** What is taken is printed as it is; what is not, is told at the number's first character. */
    private void eachNumberHasItsLimits() {
        for (Texts.Number number : Texts.NUMBERS) {
            check.sentence("limits of " + number.name());
            int least = number.least();
            int greatest = number.greatest();
            int[] within = {least, least + 1, greatest - 1, greatest};
            for (int value : within) {
                String text = number.text(String.valueOf(value));
                texts.rows(text, Texts.rowsOf(text));
                texts.printed(text, number.printed(value));
            }
            if (least > 0) {
                texts.fault(number.text(String.valueOf(least - 1)), number.place());
                texts.fault(number.text("000000" + (least - 1)), number.place());
            }
            texts.fault(number.text("-1"), number.place());
            if (greatest < 9999999) {
                texts.fault(number.text(String.valueOf(greatest + 1)), number.place());
                texts.fault(number.text(String.format("%07d", greatest + 1)), number.place());
                texts.fault(number.text("9999999"), number.place());
            } else {
                texts.fault(number.text("10000000"), number.place() + 7);
            }
        }
    }

    private void eachKindOnce() {
        check.sentence("kind k (0 .. 9, each once) begins");
        texts.rows(TEN_KINDS, 20);
        texts.printed(TEN_KINDS, TEN_KINDS);
        for (int k = 0; k <= 9; k++) {
            texts.fault("K" + k + ";S1 1;K" + k + ";S1 1", 9);
            texts.fault("K" + k + ";S1 1;K000000" + k + ";S2 2", 9);
            texts.rows("K" + k + ";S1 1;K" + (k + 1) % 10 + ";S1 1", 4);
            texts.fault(TEN_KINDS + ";K" + k + ";S1 1", TEN_KINDS.length() + 2);
        }
        texts.fault("K1;S1 1;K2;S1 1;K1", 17);
        texts.fault("K10;S1 1", 1);
        texts.fault(TEN_KINDS + ";K10;S1 1", TEN_KINDS.length() + 2);
    }

    private void rowsAreOfTheirKind() {
        check.sentence("all rows behind it, up to the next K, are of it");
        String rest = ";Z0 0;X1 1;X2 2;E1 2;D9 9 9;M9;F0 9;R9";
        String text = "K1;S9 5" + rest + ";K2;S8 6";
        texts.printed(text, text);
        new Run(check).edition(text).item(1, 1, 1, 1, 1, 0).item(2, 1, 1, 1, 1, 1)
                .price(0, 0, 0, 9).price(1, 0, 0, PostTariff.NONE);
        String turned = "K2;S8 6;K1;S9 5" + rest;
        texts.printed(turned, text);
        texts.printed("K2;S8 6" + rest + ";K1;S9 5" + rest, "K1;S9 5" + rest + ";K2;S8 6" + rest);
        new Run(check).edition("K3;S9 1;Z3 0;K4;S9 2;Z4 0").item(3, 1, 1, 1, 1, 0).item(4, 1, 1, 1, 1, 1)
                .price(0, 3, 0, 1).price(0, 4, 0, PostTariff.NONE)
                .price(1, 4, 0, 2).price(1, 3, 0, PostTariff.NONE);
    }

    private void thereIsNoneBeforeTheFirstKind() {
        check.sentence("there is none before the first K");
        String[] rows = {"S1 1", "Z0 0", "X0 0", "E0 1", "D1 1 1", "M1", "F1 1", "R1"};
        for (String row : rows) {
            texts.fault(row, 0);
            texts.fault(row.substring(0, 1), 0);
            texts.fault(row + ";K1;S1 1", 0);
        }
        for (String row : rows) {
            if (!row.startsWith("E")) {
                texts.rows("K1;S2 2;" + row.replace("S1", "S3"), 3);
            }
        }
    }

    private void aKindHasAtLeastOneStep() {
        check.sentence("It has at least one S");
        texts.fault("K1", 2);
        texts.rows("K1;S1 1", 2);
        texts.rows("K1;S1 1;S2 2", 3);
        String others = "K1;Z0 0;X1 1;X2 2;E1 2;D9 9 9;M9;F0 9;R9";
        texts.fault(others, others.length());
        texts.fault(others + ";K2;S1 1", others.length() + 1);
        texts.rows(others + ";S1 1", 10);
        texts.fault("K1;S1 1;K2", 10);
        texts.fault("K1;S1 1;K2;Z0 0", 15);
        texts.rows("K1;S1 1;K2;Z0 0;S1 1", 5);
    }

    private void aStepIsAboveTheOneBefore() {
        check.sentence("a STEP: up to weight w (1 at least, and above the step's before)");
        texts.fault("K1;S0 1", 4);
        texts.rows("K1;S1 1", 2);
        texts.fault("K1;S50 1;S49 1", 10);
        texts.fault("K1;S50 1;S50 1", 10);
        texts.fault("K1;S50 1;S50 2", 10);
        texts.rows("K1;S50 1;S51 1", 3);
        texts.rows("K1;S50 9;S51 0", 3);
        texts.fault("K1;S50 1;S51 1;S51 1", 16);
        texts.fault("K1;S50 1;S60 1;S51 1", 16);
        texts.rows("K1;S50 1;S51 1;S52 1", 4);
        texts.fault("K1;S50 1;S0 1", 10);
        texts.fault("K1;S50 1;S0000050 1", 10);
        texts.rows("K1;S50 1;S0000051 1", 3);
        texts.fault("K1;S50 1;Z0 99;S50 1", 16);
        texts.rows("K1;S50 1;Z0 99;S51 1", 4);
        texts.rows("K1;S9999998 1;S9999999 1", 3);
        texts.fault("K1;S9999999 1;S9999999 1", 15);
        texts.rows("K1;S50 1;K2;S1 1", 4);
        texts.fault("K1;S50 1;K2;S0 1", 13);
        texts.rows("K1;S50 1;K2;S50 1;K3;S49 1", 6);
    }

    private void tenStepsAtMost() {
        check.sentence("Ten steps at most");
        for (int steps = 1; steps <= 10; steps++) {
            String text = "K1;" + Texts.manyRows("S", 1, steps, " 5");
            texts.rows(text, steps + 1);
            texts.printed(text, text);
        }
        String ten = "K1;" + Texts.manyRows("S", 1, 10, " 5");
        texts.fault(ten + ";S11 5", ten.length() + 1);
        texts.fault(ten + ";S1 5", ten.length() + 1);
        texts.fault(ten + ";S", ten.length() + 1);
        texts.fault(ten + ";Z0 0;S11 5", ten.length() + 6);
        texts.rows(ten + ";Z0 0", 12);
        String again = ";K2;" + Texts.manyRows("S", 1, 10, " 5");
        texts.rows(ten + again, 22);
        texts.fault(ten + again + ";S11 5", ten.length() + again.length() + 1);
        Run run = new Run(check).edition(ten + ";Z0 0").item(1, 10, 1, 1, 1, 0).item(1, 11, 1, 1, 1, 1);
        run.price(0, 0, 0, 5).parts("0 5 9,1 0 0").price(1, 0, 0, PostTariff.NONE);
    }

    private void eachZoneOnce() {
        check.sentence("zone z (0 .. 9, once): p (0 .. 1000) in 100 more");
        String ten = ONE_KIND + Texts.manyRows("Z", 0, 9, " 3");
        texts.rows(ten, 12);
        texts.printed(ten, ten);
        for (int z = 0; z <= 9; z++) {
            texts.fault(ONE_KIND + "Z" + z + " 3;Z" + z + " 3", 14);
            texts.fault(ONE_KIND + "Z" + z + " 3;Z000000" + z + " 4", 14);
            texts.rows(ONE_KIND + "Z" + z + " 3;Z" + (z + 1) % 10 + " 3", 4);
            texts.rows(ONE_KIND + "Z" + z + " 3;X" + z + " 3", 4);
            texts.rows(ONE_KIND + "Z" + z + " 3;K2;S1 1;Z" + z + " 3", 6);
            texts.fault(ten + ";Z" + z + " 3", ten.length() + 2);
        }
        texts.fault(ONE_KIND + "Z1 0;Z2 0;Z1 0", 19);
        texts.fault(ONE_KIND + "Z1 0;Z1 0", 14);
    }

    private void eachServiceOnce() {
        check.sentence("X s c: service s (0 .. 9, once) costs c more");
        String ten = ONE_KIND + Texts.manyRows("X", 0, 9, " 3");
        texts.rows(ten, 12);
        texts.printed(ten, ten);
        for (int s = 0; s <= 9; s++) {
            texts.fault(ONE_KIND + "X" + s + " 3;X" + s + " 3", 14);
            texts.fault(ONE_KIND + "X" + s + " 3;X000000" + s + " 4", 14);
            texts.rows(ONE_KIND + "X" + s + " 3;X" + (s + 1) % 10 + " 3", 4);
            texts.rows(ONE_KIND + "X" + s + " 3;K2;S1 1;X" + s + " 3", 6);
            texts.fault(ten + ";X" + s + " 3", ten.length() + 2);
        }
        texts.fault(ONE_KIND + "X1 0;X2 0;X1 0", 19);
        texts.fault(ONE_KIND + "X1 0;X1 0", 14);
    }

    private void exclusionOfAnotherService() {
        check.sentence("E s t: services s and t (other than s ..) exclude each other");
        String ten = ONE_KIND + Texts.manyRows("X", 0, 9, " 3");
        for (int s = 0; s <= 9; s++) {
            for (int t = 0; t <= 9; t++) {
                if (s == t) {
                    texts.fault(ten + ";E" + s + " " + t, ten.length() + 4);
                } else {
                    texts.rows(ten + ";E" + s + " " + t, 13);
                }
            }
            texts.fault(ten + ";E" + s + " 000000" + s, ten.length() + 4);
        }
        texts.fault(ten + ";E10 1", ten.length() + 2);
        texts.fault(ten + ";E1 10", ten.length() + 4);
    }

    private void bothInXRowsBefore() {
        check.sentence("(.. both in X rows before)");
        texts.fault(ONE_KIND + "E1 2", 9);
        texts.fault(ONE_KIND + "X1 7;E1 2", 16);
        texts.fault(ONE_KIND + "X1 7;E2 1", 14);
        texts.rows(TWO_SERVICES + ";E1 2", 5);
        texts.rows(TWO_SERVICES + ";E2 1", 5);
        texts.rows(ONE_KIND + "X2 8;X1 7;E1 2", 5);
        texts.fault(ONE_KIND + "X1 7;E1 2;X2 8", 16);
        texts.fault(TWO_SERVICES + ";E3 1", 19);
        texts.fault(TWO_SERVICES + ";E0 1", 19);
        texts.fault(TWO_SERVICES + ";E1 3", 21);
        texts.fault(TWO_SERVICES + ";E1 0", 21);
        texts.rows(ONE_KIND + "X0 0;X9 0;E0 9", 5);
        texts.rows(ONE_KIND + "X0 0;X9 0;E9 0", 5);
        texts.fault(TWO_SERVICES + ";K2;S1 1;E1 2", 27);
        texts.fault(TWO_SERVICES + ";K2;S1 1;X2 8;E2 1", 34);
        texts.rows(TWO_SERVICES + ";K2;S1 1;X2 8;X1 7;E2 1", 9);
        texts.fault(ONE_KIND + "Z1 7;Z2 8;E1 2", 19);
    }

    private void tenExclusionsAtMost() {
        check.sentence("E ..; ten at most");
        texts.rows(NINE_PAIRS, 16);
        String ten = NINE_PAIRS + ";E3 4";
        texts.rows(ten, 17);
        texts.printed(ten, ten);
        String more = ";X5 0;E0 5";
        texts.rows(NINE_PAIRS + more, 18);
        texts.fault(ten + more, ten.length() + 6);
        texts.fault(ten + ";E3 4", ten.length() + 1);
        texts.fault(ten + ";E9 9", ten.length() + 1);
        texts.fault(ten + ";E", ten.length() + 1);
        texts.rows(ten + ";X5 0;R1", 19);
        String again = ten.replace("K1", "K2");
        texts.rows(ten + ";" + again, 34);
        texts.fault(ten + ";" + again + more, ten.length() + 1 + again.length() + 6);
        new Run(check).edition(ten + ";Z0 0").item(1, 1, 1, 1, 1, 0).service(0, 3, 1).price(0, 0, 0, 1)
                .service(0, 4, 2).price(0, 0, 0, PostTariff.NONE);
    }

    private void eachExclusionOnce() {
        check.sentence("a row that is there already: E");
        String three = TWO_SERVICES + ";X3 9";
        texts.fault(three + ";E1 2;E1 2", three.length() + 9);
        texts.fault(three + ";E1 2;E1 0000002", three.length() + 9);
        texts.fault(three + ";E1 2;E2 1", three.length() + 9);
        texts.fault(three + ";E2 1;E1 2", three.length() + 9);
        texts.rows(three + ";E1 2;E1 3", 7);
        texts.rows(three + ";E1 2;E2 3", 7);
        texts.rows(three + ";E1 2;E3 1", 7);
        texts.rows(three + ";E2 1;E3 1;E3 2", 8);
        texts.fault(three + ";E2 1;E3 1;E3 2;E1 3", three.length() + 19);
        texts.rows(TWO_SERVICES + ";E1 2;K2;S1 1;X1 7;X2 8;E1 2", 10);
    }

    private void fromDayToDay() {
        check.sentence("F a b: from day a to day b, both (a not above b)");
        texts.rows(ONE_KIND + "F0 0", 3);
        texts.rows(ONE_KIND + "F0 1", 3);
        texts.fault(ONE_KIND + "F1 0", 11);
        texts.rows(ONE_KIND + "F50 51", 3);
        texts.rows(ONE_KIND + "F50 50", 3);
        texts.fault(ONE_KIND + "F50 49", 12);
        texts.rows(ONE_KIND + "F9999999 9999999", 3);
        texts.fault(ONE_KIND + "F9999999 9999998", 17);
        texts.fault(ONE_KIND + "F50 5", 12);
        texts.rows(ONE_KIND + "F5 50", 3);
    }

    private void eachOfTheseFourOnce() {
        check.sentence("Each of these four once");
        String[] rows = {"D1 1 1", "M1", "F1 1", "R1"};
        for (String row : rows) {
            String one = ONE_KIND + row;
            texts.rows(one, 3);
            texts.fault(one + ";" + row, one.length() + 1);
            texts.fault(one + ";" + row.replace('1', '2'), one.length() + 1);
            texts.fault(one + ";" + row.charAt(0), one.length() + 1);
            texts.fault(one + ";Z0 0;" + row, one.length() + 6);
            texts.rows(one + ";K2;S1 1;" + row, 6);
            texts.fault(one + ";K2;S1 1;" + row + ";" + row, one.length() + 10 + row.length());
            for (String other : rows) {
                if (!other.equals(row)) {
                    texts.rows(one + ";" + other, 4);
                }
            }
        }
        texts.rows(ONE_KIND + "R1;F1 1;M1;D1 1 1", 6);
    }
}
