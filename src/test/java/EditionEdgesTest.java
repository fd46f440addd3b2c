/** The terms AN EDITION and PRINTED: how editions are numbered, which one holds, and how one is printed. */
public final class EditionEdgesTest {
    private final Check check = new Check("EditionEdgesTest");
    private final Texts texts = new Texts(check);

    public static void main(String[] args) {
        EditionEdgesTest test = new EditionEdgesTest();
        test.whatATextWithoutFaultTold();
        test.numberedFromZero();
        test.fiveAtMost();
        test.theLatestOneHolds();
        test.kindsAreByNumber();
        test.rowsInOrder();
        test.zonesAndServicesByNumber();
        test.exclusionsTheLesserFirst();
        test.numbersWithoutZerosInFront();
        test.noSemicolonAtTheEnd();
        test.check.end();
    }

    private void whatATextWithoutFaultTold() {
        check.sentence("AN EDITION is what a text without a fault told");
        new Run(check).fault("K1;S1", 5).compare(0, PostTariff.UNKNOWN).print(PostTariff.STATE)
                .edition("K1;S1 1").compare(0, 0).printed("K1;S1 1");
        new Run(check).edition("K1;S1 1").fault("K2;S2 2;", 8).compare(1, PostTariff.UNKNOWN).printed("K1;S1 1")
                .edition("K2;S2 2").compare(1, 0).printed("K2;S2 2");
        String whole = Texts.ALL_ROWS;
        new Run(check).fault(whole + ";", whole.length() + 1).edition("K1;S1 1").printed("K1;S1 1");
        new Run(check).fault(whole + ";", whole.length() + 1).edition(whole).printed(whole);
        new Run(check).edition("").compare(0, 0).compare(1, PostTariff.UNKNOWN).printed("");
        String full = "K1;" + Texts.manyRows("S", 1, 10, " 1") + ";" + Texts.manyRows("X", 0, 4, " 0")
                + ";E0 1;E0 2;E0 3;E0 4;E1 2;E1 3;E1 4;E2 3;E2 4;E3 4;D1 1 1;M1;F0 0;R1";
        new Run(check).fault(full + ";", full.length() + 1).edition(full).compare(0, 0).compare(1, PostTariff.UNKNOWN);
        new Run(check).edition(full).fault(full + "x", full.length()).edition(full).compare(0, 0).compare(1, 0);
    }

    private void numberedFromZero() {
        check.sentence("they are numbered from 0");
        Run run = new Run(check).compare(0, PostTariff.UNKNOWN);
        for (int e = 0; e < 5; e++) {
            run.compare(e, PostTariff.UNKNOWN).fault("K1", 2).compare(e, PostTariff.UNKNOWN).edition(e == 2 ? "" : Texts.manyRows("K", 0, e, ";S1 " + e)).compare(e, 0);
            run.compare(-1, PostTariff.UNKNOWN).compare(e + 1, PostTariff.UNKNOWN);
        }
        run.compare(0, 5).compare(1, 5).compare(2, 5).compare(3, 5).compare(4, 0);
    }

    private void fiveAtMost() {
        check.sentence("five at most");
        Run run = new Run(check).item(1, 1, 1, 1, 1, 0);
        for (int e = 0; e < 4; e++) {
            run.edition("K1;S1 " + e + ";Z0 0").price(0, 0, 0, e);
        }
        run.fault("K1;S1 9;", 8).compare(4, PostTariff.UNKNOWN);
        run.edition("K1;S1 4;Z0 0").price(0, 0, 0, 4).compare(4, 0).compare(3, 1).compare(5, PostTariff.UNKNOWN);
        run.text("K1;S1 5;Z0 0").read(PostTariff.ROOM).price(0, 0, 0, 4).compare(4, 0).compare(5, PostTariff.UNKNOWN);
        run.text("K1;S1 6").read(PostTariff.ROOM).read(PostTariff.ROOM).compare(5, PostTariff.UNKNOWN)
                .compare(6, PostTariff.UNKNOWN).printed("K1;S1 4;Z0 0");
        Run empty = new Run(check);
        for (int e = 0; e < 5; e++) {
            empty.read(0).compare(e, 0);
        }
        empty.read(PostTariff.ROOM).compare(5, PostTariff.UNKNOWN);
    }

    private void theLatestOneHolds() {
        check.sentence("the latest one holds");
        Run run = new Run(check).item(1, 1, 1, 1, 1, 0).edition("K1;S9 5;Z0 0;K2;S9 6;Z0 0");
        run.price(0, 0, 0, 5).least(0, 0, 0, 1).printed("K1;S9 5;Z0 0;K2;S9 6;Z0 0");
        run.edition("K1;S9 8;Z0 0;K2;S9 7;Z0 0").price(0, 0, 0, 8).least(0, 0, 0, 2)
                .printed("K1;S9 8;Z0 0;K2;S9 7;Z0 0");
        run.edition("K2;S9 7").price(0, 0, 0, PostTariff.NONE).least(0, 0, 0, PostTariff.NONE)
                .compare(0, 2).compare(1, 2).compare(2, 0).printed("K2;S9 7");
        run.edition("").price(0, 0, 0, PostTariff.NONE).compare(2, 1).compare(3, 0).printed("");
        run.edition("K1;S9 3;Z0 0").price(0, 0, 0, 3).least(0, 0, 0, 1).printed("K1;S9 3;Z0 0");
    }

    private void kindsAreByNumber() {
        check.sentence("PRINTED: kinds by number; in each its K");
        texts.printed("K9;S1 9;K0;S1 0", "K0;S1 0;K9;S1 9");
        texts.printed("K0;S1 0;K9;S1 9", "K0;S1 0;K9;S1 9");
        texts.printed("K5;S1 5;K4;S1 4;K6;S1 6", "K4;S1 4;K5;S1 5;K6;S1 6");
        StringBuilder turned = new StringBuilder();
        for (int k = 9; k >= 0; k--) {
            turned.append("K").append(k).append(";S1 ").append(k).append(k > 0 ? ";" : "");
        }
        String due = "K0;S1 0;K1;S1 1;K2;S1 2;K3;S1 3;K4;S1 4;K5;S1 5;K6;S1 6;K7;S1 7;K8;S1 8;K9;S1 9";
        texts.printed(turned.toString(), due);
    }

    private void rowsInOrder() {
        check.sentence("steps in order, Z and X by number, E .., D, M, F, R");
        String due = "K1;S5 6;S7 0;Z0 7;X1 8;X2 9;E1 2;D3 4 5;M6;F7 8;R9";
        String[] others = {"Z0 7", "X1 8;X2 9;E1 2", "D3 4 5", "M6", "F7 8", "R9"};
        for (int first = 0; first < others.length; first++) {
            StringBuilder text = new StringBuilder("K1");
            for (int i = others.length; i > 0; i--) {
                text.append(';').append(others[(first + i) % others.length]).append(i == 3 ? ";S5 6" : "");
            }
            texts.printed(text + ";S7 0", due);
        }
        for (int gone = 0; gone < others.length; gone++) {
            String without = due.replace(";" + others[gone], "");
            texts.printed(without, without);
        }
        texts.printed(due, due);
        texts.printed("K1;S1 9;S2 8;S3 7;S10 6", "K1;S1 9;S2 8;S3 7;S10 6");
        texts.printed("K1;S1 1", "K1;S1 1");
    }

    private void zonesAndServicesByNumber() {
        check.sentence("Z and X by number");
        texts.printed("K1;S1 1;Z9 0;Z0 9;X9 0;X0 9", "K1;S1 1;Z0 9;Z9 0;X0 9;X9 0");
        texts.printed("K1;S1 1;X5 1;Z5 2;X4 3;Z4 4;X6 5;Z6 6", "K1;S1 1;Z4 4;Z5 2;Z6 6;X4 3;X5 1;X6 5");
        texts.printed("K1;S1 1;X0 0;Z0 0", "K1;S1 1;Z0 0;X0 0");
    }

    private void exclusionsTheLesserFirst() {
        check.sentence("E (the lesser service first, by it and the other one)");
        String head = "K1;S1 1;X0 0;X1 0;X2 0;X9 0";
        texts.printed(head + ";E0 1", head + ";E0 1");
        texts.printed(head + ";E1 0", head + ";E0 1");
        texts.printed(head + ";E9 0", head + ";E0 9");
        texts.printed(head + ";E9 2;E2 1;E1 0", head + ";E0 1;E1 2;E2 9");
        texts.printed(head + ";E1 9;E2 1;E0 9;E2 0;E0 1", head + ";E0 1;E0 2;E0 9;E1 2;E1 9");
        texts.printed(head + ";E2 9;E1 9;E1 2;E0 9;E0 2;E0 1", head + ";E0 1;E0 2;E0 9;E1 2;E1 9;E2 9");
    }

    private void numbersWithoutZerosInFront() {
        check.sentence("numbers without zeros in front");
        texts.printed("K0000000;S0000001 0000000", "K0;S1 0");
        int[] numbers = {1, 9, 10, 11, 99, 100, 101, 999, 1000, 9999, 10000, 99999, 100000, 100001, 999999, 1000000,
            1000001, 9999998, 9999999};
        for (int number : numbers) {
            String padded = String.format("%07d", number);
            texts.printed("K1;S" + padded + " " + padded, "K1;S" + number + " " + number);
            texts.printed("K1;S1 1;M" + padded, "K1;S1 1;M" + number);
            texts.printed("K1;S1 1;F0 " + number, "K1;S1 1;F0 " + number);
        }
        texts.printed("K1;S1 1;Z01 000;X02 00;D01 002 0003;M04;F00 000;R0000005", "K1;S1 1;Z1 0;X2 0;D1 2 3;M4;F0 0;R5");
        texts.printed("K1;S1 1;Z0 0000000;F0000000 0000000", "K1;S1 1;Z0 0;F0 0");
    }

    private void noSemicolonAtTheEnd() {
        check.sentence("no ; at the end");
        new Run(check).edition("K1;S1 1").print(7).at(6, '1').at(7, PostTariff.NONE);
        new Run(check).edition("K2;S1 1;K1;S1 2").print(15).at(14, '1').at(15, PostTariff.NONE);
        new Run(check).edition("K1;S1 1;R1").print(10).at(9, '1').at(10, PostTariff.NONE);
        new Run(check).edition("").print(0).at(0, PostTariff.NONE);
    }
}
