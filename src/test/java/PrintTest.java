/** Promise 11: the latest edition is printed. */
public final class PrintTest {
    public static void main(String[] args) {
        Check check = new Check("PrintTest");
        check.due("no edition", new PostTariff().print(), PostTariff.STATE);
        checkOne(check, "", "");
        checkOne(check, "K0;S1 0", "K0;S1 0");
        checkOne(check, "K1;S100 85;S500 140;Z0 0;Z2 25;X3 250;K2;S9 1", "K1;S100 85;S500 140;Z0 0;Z2 25;X3 250;K2;S9 1");
        checkOne(check, "K9;S1 1;K0;S1 2;K5;S1 3", "K0;S1 2;K5;S1 3;K9;S1 1");
        checkOne(check, "K7;R1000;F0 9999999;M9999999;D1 20 300;X9 0;X2 10;E9 2;X5 7;E5 2;E9 5;Z3 1000;Z1 0;S10 1000000;S11 0",
                "K7;S10 1000000;S11 0;Z1 0;Z3 1000;X2 10;X5 7;X9 0;E2 5;E2 9;E5 9;D1 20 300;M9999999;F0 9999999;R1000");
        checkOne(check, "K0000000;S0000001 0000000;Z0000009 0000010;D0000100 0010000 1000000;M0099999;F0000000 0000000;R0000001",
                "K0;S1 0;Z9 10;D100 10000 1000000;M99999;F0 0;R1");
        checkOne(check, "K1;S1 1;X0 0;X1 0;X2 0;E2 0;E2 1;E1 0", "K1;S1 1;X0 0;X1 0;X2 0;E0 1;E0 2;E1 2");
        PostTariff tariff = Check.tariffOf("K1;S1 1");
        Check.read(tariff, "K2;S2 22");
        check.due("the latest one", Check.printed(tariff), "K2;S2 22");
        check.due("and again", tariff.print(), 8);
        Check.read(tariff, "");
        check.due("an empty one", Check.printed(tariff), "");
        check.end();
    }

    private static void checkOne(Check check, String text, String want) {
        PostTariff tariff = Check.tariffOf(text);
        check.due("print() of " + text, tariff.print(), want.length());
        check.due("what was printed of " + text, Check.printed(tariff), want);
    }
}
