/** Promise 3: read tells how many rows, or the place of the first fault. */
public final class ReadTest {
    private static final String TEN_STEPS =
            "K1;S1 0;S2 0;S3 0;S4 0;S5 0;S6 0;S7 0;S8 0;S9 0;S10 0";
    private static final String FIVE_SERVICES = "K1;S1 0;X0 0;X1 0;X2 0;X3 0;X4 0";
    private static final String TEN_EXCLUSIONS = FIVE_SERVICES
            + ";E0 1;E0 2;E0 3;E0 4;E1 2;E1 3;E1 4;E2 3;E2 4;E3 4";

    private final Check check = new Check("ReadTest");

    public static void main(String[] args) {
        ReadTest test = new ReadTest();
        test.checkRows();
        test.checkSigns();
        test.checkLetters();
        test.checkSteps();
        test.checkZonesAndServices();
        test.checkExclusions();
        test.checkLimits();
        test.checkKinds();
        test.checkWhenNumbersAreLookedAt();
        test.checkBehindFault();
        test.checkEditions();
        test.check.end();
    }

    private void rows(String text, int want) {
        check.due("read() of " + text, Check.read(new PostTariff(), text), want);
    }

    /** The fault is at the last place of the text up to which it is told. */
    private void fault(String text, int place) {
        check.due("read() of " + text, Check.read(new PostTariff(), text), -1 - place);
    }

    private void checkRows() {
        rows("", 0);
        rows("K1;S100 85;S500 140;Z0 0;Z2 25;X3 250;K2;S9 1", 8);
        rows("K0;S1 0", 2);
        rows("K9;S9999999 9999999;Z9 1000;X9 9999999;D9999999 9999999 9999999;M9999999;F0 9999999;R1000", 8);
        rows("K0000001;S0000001 0000000;Z0000000 0000000;X0000003 0000001", 4);
        rows(TEN_STEPS, 11);
        rows(TEN_EXCLUSIONS, 17);
        rows("K1;R1;M1;F1 1;D1 1 1;X1 1;X0 1;E1 0;Z9 0;Z0 0;S1 1", 11);
    }

    private void checkSigns() {
        fault(";", 0);
        fault(" ", 0);
        fault("k1;S1 1", 0);
        fault("K", 1);
        fault("K ", 1);
        fault("K;S1 1", 1);
        fault("K-1;S1 1", 1);
        fault("K1", 2);
        fault("K1 ", 2);
        fault("K1 2", 2);
        fault("K1x", 2);
        fault("K1;", 3);
        fault("K1;S", 4);
        fault("K1;S ", 4);
        fault("K1;S5", 5);
        fault("K1;S5;S6 1", 5);
        fault("K1;S5 ", 6);
        fault("K1;S5  1", 6);
        fault("K1;S5 ;", 6);
        fault("K1;S5 1 ", 7);
        fault("K1;S5 1 2", 7);
        fault("K1;S5 1.", 7);
        fault("K1;S5 1;", 8);
        fault("K1;S5 1;;", 8);
        fault("K1;S5 1; Z0 0", 8);
        fault("K1;S12345678 1", 11);
        fault("K1;S1 00000001", 13);
        fault("K1;S1 1;D1 1", 12);
        fault("K1;S1 1;D1 1 ", 13);
        fault("K1;S1 1;D1 1 1 1", 14);
        fault("K1;S1 1;M1 1", 10);
        fault("K1;S1 1;R1 1", 10);
        fault("K1;S1 1;F1", 10);
        fault("K1;S1 1;F1;", 10);
        fault("K1;S1 /", 6);
        fault("K1;S1 :", 6);
    }

    private void checkLetters() {
        String letters = "SZXEDMFR";
        for (int i = 0; i < letters.length(); i++) {
            fault(letters.charAt(i) + "1 1", 0);
        }
        for (char c = 0; c <= 126; c++) {
            if ("KSZXEDMFR".indexOf(c) < 0) {
                fault("K1;S1 1;" + c + "1 1", 8);
                fault(String.valueOf(c), 0);
            }
        }
        fault("K1;K2", 3);
        fault("K1;Z0 0;K2;S1 1", 8);
        fault("K1;Z0 0", 7);
        fault("K1;S1 1;K2", 10);
        fault("K1;S1 1;K2;M1", 13);
        fault("K1;S1 1;K2;Z0 0;K3;S1 1", 16);
    }

    private void checkSteps() {
        fault("K1;S0 1", 4);
        fault("K1;S0", 4);
        fault("K1;S5 1;S5 2", 9);
        fault("K1;S5 1;S4 2", 9);
        fault("K1;S5 1;Z0 0;S5 2", 14);
        rows("K1;S5 9;S6 8;Z0 0;S7 0", 5);
        rows("K1;S5 1;K2;S5 1", 4);
        fault(TEN_STEPS + ";S11 1", TEN_STEPS.length() + 1);
        fault(TEN_STEPS + ";S1 1", TEN_STEPS.length() + 1);
        rows(TEN_STEPS + ";K2;S1 1", 13);
    }

    private void checkZonesAndServices() {
        fault("K1;S5 1;Z0 1001", 11);
        fault("K1;S5 1;Z10 1", 9);
        fault("K1;S5 1;Z0 1;Z0 2", 14);
        rows("K1;S5 1;Z0 1;K2;S1 1;Z0 2", 6);
        fault("K1;S5 1;X10 1", 9);
        fault("K1;S5 1;X3 1;X03 1", 14);
        rows("K1;S5 1;X3 1;Z3 1;K2;S1 1;X3 2", 7);
        String zones = "K1;S1 1;Z0 0;Z1 0;Z2 0;Z3 0;Z4 0;Z5 0;Z6 0;Z7 0;Z8 0;Z9 0";
        rows(zones, 12);
        fault(zones + ";Z5 0", zones.length() + 2);
    }

    private void checkExclusions() {
        fault("K1;S5 1;E1 2", 9);
        fault("K1;S5 1;X1 1;E1 2", 16);
        fault("K1;S5 1;X1 1;E2 1", 14);
        fault("K1;S5 1;X1 1;E1 1", 16);
        fault("K1;S5 1;X1 1;E10 1", 14);
        fault("K1;S5 1;X1 1;E1 10", 16);
        fault("K1;S5 1;X1 1;E1 2;X2 1", 16);
        rows("K1;S5 1;X1 1;X2 1;E1 2", 5);
        rows("K1;S5 1;X1 1;X2 1;E2 1", 5);
        fault("K1;S5 1;X1 1;X2 1;E1 2;E1 2", 26);
        fault("K1;S5 1;X1 1;X2 1;E1 2;E2 1", 26);
        fault("K1;S5 1;X1 1;X2 1;K2;S5 1;E1 2", 27);
        fault(TEN_EXCLUSIONS + ";X5 0;E0 5", TEN_EXCLUSIONS.length() + 6);
        fault(TEN_EXCLUSIONS + ";E0 1", TEN_EXCLUSIONS.length() + 1);
        rows(TEN_EXCLUSIONS + ";K2;S1 1;X1 1;X2 1;E1 2", 22);
    }

    private void checkLimits() {
        fault("K1;S1 1;D0 1 1", 9);
        fault("K1;S1 1;D1 0 1", 11);
        fault("K1;S1 1;D1 1 0", 13);
        fault("K1;S1 1;D1 1 1;D2 2 2", 15);
        fault("K1;S1 1;M0", 9);
        fault("K1;S1 1;M1;M2", 11);
        fault("K1;S1 1;F2 1", 11);
        rows("K1;S1 1;F2 2", 3);
        rows("K1;S1 1;F0 0", 3);
        fault("K1;S1 1;F0 0;F0 0", 13);
        fault("K1;S1 1;R0", 9);
        fault("K1;S1 1;R1001", 9);
        fault("K1;S1 1;R1;R1", 11);
        rows("K1;S1 1;R1;M1;F0 0;D1 1 1;K2;S1 1;R1;M1;F0 0;D1 1 1", 12);
    }

    private void checkKinds() {
        fault("K10", 1);
        fault("K10;S1 1", 1);
        fault("K1;S1 1;K1;S1 1", 9);
        fault("K1;S1 1;K2;S1 1;K01", 17);
        StringBuilder all = new StringBuilder();
        for (int k = 9; k >= 0; k--) {
            all.append("K").append(k).append(";S1 1").append(k > 0 ? ";" : "");
        }
        rows(all.toString(), 20);
        fault(all + ";K0;S1 1", all.length() + 2);
    }

    private void checkWhenNumbersAreLookedAt() {
        fault("K12345678", 1);
        fault("K10x", 1);
        fault("K10 1", 1);
        fault("K1;S0000000", 4);
        fault("K1;S00000001 1", 4);
        fault("K1;S00000011 1", 11);
        fault("K00000001;S1 1", 8);
        fault("K1;S1 1;Z0 10011111", 11);
        fault("K1;S1 1;K1", 9);
        fault("K1;S1 1;K1x", 9);
        rows("K1;S1 1;Z0 0001000", 3);
        fault("K1;S1 1;R0001001", 9);
    }

    /** Nothing of a faulty text stays behind for the next one. */
    private void checkBehindFault() {
        String whole = TEN_EXCLUSIONS + ";Z0 0;D1 1 1;M1;F1 1;R1";
        PostTariff tariff = new PostTariff();
        check.due("a whole kind and a fault", Check.read(tariff, whole + ";"), -2 - whole.length());
        check.due("the same without the fault", Check.read(tariff, whole), 22);
        check.due("it is the first edition", tariff.compare(1), PostTariff.UNKNOWN);
    }

    private void checkEditions() {
        PostTariff tariff = new PostTariff();
        check.due("a fault is no edition", Check.read(tariff, "K1;S1"), -6);
        check.due("print() behind a fault", tariff.print(), PostTariff.STATE);
        check.due("the text is empty behind a fault", Check.read(tariff, "K1;S1 5"), 2);
        check.due("the text is empty behind an edition", Check.read(tariff, "K2;S1 5"), 2);
        check.due("the latest one holds", Check.printed(tariff), "K2;S1 5");
        check.due("a fault leaves the latest one", Check.read(tariff, "K3;S1 5;K4"), -11);
        check.due("the latest one still holds", Check.printed(tariff), "K2;S1 5");
        for (int i = 3; i <= 5; i++) {
            check.due("edition " + i, Check.read(tariff, "K3;S1 " + i), 2);
        }
        check.due("a fault comes before ROOM", Check.read(tariff, "K3;S1 5;"), -9);
        check.due("a sixth edition", Check.read(tariff, "K4;S1 5"), PostTariff.ROOM);
        check.due("the text is empty behind ROOM, too", tariff.read(), PostTariff.ROOM);
        check.due("the fifth one holds", Check.printed(tariff), "K3;S1 5");
        check.due("the fifth one is the latest", tariff.compare(4), 0);
        check.due("there is no sixth", tariff.compare(5), PostTariff.UNKNOWN);
    }
}
