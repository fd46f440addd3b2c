/** Promise 10: how many kinds are printed otherwise in an edition than in the latest one. */
public final class CompareTest {
    private static final String BASE = "K1;S5 6;S7 8;Z1 2;X1 1;X2 2;X3 3;E1 2;D1 2 3;M4;F5 6;R7";

    public static void main(String[] args) {
        Check check = new Check("CompareTest");
        checkOne(check, BASE, 0);
        checkOne(check, "K01;R7;F5 06;M4;D1 2 3;X3 3;X2 2;X1 1;E2 1;Z1 2;S5 6;S7 008", 0);
        String[] others = {
            "K1;S5 6;Z1 2;X1 1;X2 2;X3 3;E1 2;D1 2 3;M4;F5 6;R7",
            "K1;S5 6;S7 8;S9 8;Z1 2;X1 1;X2 2;X3 3;E1 2;D1 2 3;M4;F5 6;R7",
            "K1;S4 6;S7 8;Z1 2;X1 1;X2 2;X3 3;E1 2;D1 2 3;M4;F5 6;R7",
            "K1;S5 6;S7 9;Z1 2;X1 1;X2 2;X3 3;E1 2;D1 2 3;M4;F5 6;R7",
            "K1;S5 6;S7 8;X1 1;X2 2;X3 3;E1 2;D1 2 3;M4;F5 6;R7",
            "K1;S5 6;S7 8;Z2 2;X1 1;X2 2;X3 3;E1 2;D1 2 3;M4;F5 6;R7",
            "K1;S5 6;S7 8;Z1 3;X1 1;X2 2;X3 3;E1 2;D1 2 3;M4;F5 6;R7",
            "K1;S5 6;S7 8;Z1 2;X1 1;X2 2;E1 2;D1 2 3;M4;F5 6;R7",
            "K1;S5 6;S7 8;Z1 2;X1 1;X2 2;X3 4;E1 2;D1 2 3;M4;F5 6;R7",
            "K1;S5 6;S7 8;Z1 2;X1 1;X2 2;X3 3;D1 2 3;M4;F5 6;R7",
            "K1;S5 6;S7 8;Z1 2;X1 1;X2 2;X3 3;E1 3;D1 2 3;M4;F5 6;R7",
            "K1;S5 6;S7 8;Z1 2;X1 1;X2 2;X3 3;E1 2;E2 3;D1 2 3;M4;F5 6;R7",
            "K1;S5 6;S7 8;Z1 2;X1 1;X2 2;X3 3;E1 2;M4;F5 6;R7",
            "K1;S5 6;S7 8;Z1 2;X1 1;X2 2;X3 3;E1 2;D2 2 3;M4;F5 6;R7",
            "K1;S5 6;S7 8;Z1 2;X1 1;X2 2;X3 3;E1 2;D1 3 3;M4;F5 6;R7",
            "K1;S5 6;S7 8;Z1 2;X1 1;X2 2;X3 3;E1 2;D1 2 4;M4;F5 6;R7",
            "K1;S5 6;S7 8;Z1 2;X1 1;X2 2;X3 3;E1 2;D1 2 3;F5 6;R7",
            "K1;S5 6;S7 8;Z1 2;X1 1;X2 2;X3 3;E1 2;D1 2 3;M5;F5 6;R7",
            "K1;S5 6;S7 8;Z1 2;X1 1;X2 2;X3 3;E1 2;D1 2 3;M4;R7",
            "K1;S5 6;S7 8;Z1 2;X1 1;X2 2;X3 3;E1 2;D1 2 3;M4;F4 6;R7",
            "K1;S5 6;S7 8;Z1 2;X1 1;X2 2;X3 3;E1 2;D1 2 3;M4;F5 7;R7",
            "K1;S5 6;S7 8;Z1 2;X1 1;X2 2;X3 3;E1 2;D1 2 3;M4;F5 6",
            "K1;S5 6;S7 8;Z1 2;X1 1;X2 2;X3 3;E1 2;D1 2 3;M4;F5 6;R8",
            ""};
        for (String other : others) {
            checkOne(check, other, 1);
        }
        checkOne(check, BASE + ";K2;S1 1", 1);
        checkOne(check, BASE + ";Z0 0", 1);
        checkOne(check, BASE + ";Z9 0", 1);
        checkOne(check, BASE + ";X0 0", 1);
        checkOne(check, BASE + ";X9 0", 1);
        checkOne(check, "K2" + BASE.substring(2), 2);
        checkOne(check, "K0;S1 1;K9;S1 1", 3);
        checkBehindFault(check);
        checkMany(check);
        check.end();
    }

    private static void checkOne(Check check, String text, int want) {
        PostTariff tariff = Check.tariffOf(BASE);
        Check.read(tariff, text);
        check.due("compare(0) with " + text, tariff.compare(0), want);
        check.due("compare(1) with itself", tariff.compare(1), 0);
        PostTariff turned = Check.tariffOf(text);
        Check.read(turned, BASE);
        check.due("compare(0) of " + text, turned.compare(0), want);
    }

    /** Nothing of a faulty text stays behind for the next one. */
    private static void checkBehindFault(Check check) {
        PostTariff tariff = Check.tariffOf("K1;S5 6");
        Check.read(tariff, BASE + ";");
        Check.read(tariff, "K1;S5 6");
        check.due("compare(0) behind a fault", tariff.compare(0), 0);
        check.due("print() behind a fault", Check.printed(tariff), "K1;S5 6");
    }

    private static void checkMany(Check check) {
        PostTariff tariff = new PostTariff();
        check.due("no edition", tariff.compare(0), PostTariff.UNKNOWN);
        Check.read(tariff, "K1;S1 1;K2;S1 1;K3;S1 1");
        check.due("one that is not there yet", tariff.compare(1), PostTariff.UNKNOWN);
        Check.read(tariff, "K1;S1 1");
        Check.read(tariff, "K1;S1 1;S2 2");
        Check.read(tariff, "K1;S1 1;K2;S1 1");
        Check.read(tariff, "K3;S1 1;K2;S1 1");
        check.due("compare(0)", tariff.compare(0), 1);
        check.due("compare(1)", tariff.compare(1), 3);
        check.due("compare(2)", tariff.compare(2), 3);
        check.due("compare(3)", tariff.compare(3), 2);
        check.due("compare(4)", tariff.compare(4), 0);
        int[] wrong = {-1, 5, 6, Integer.MIN_VALUE, Integer.MAX_VALUE};
        for (int edition : wrong) {
            check.due("compare(" + edition + ")", tariff.compare(edition), PostTariff.UNKNOWN);
        }
    }
}
