/** Promise 8: the parts of the price told latest. */
public final class ExplainTest {
    public static void main(String[] args) {
        Check check = new Check("ExplainTest");
        PostTariff tariff = Check.tariffOf(
                "K1;S5 11;S9 55;Z0 0;Z7 50;X9 1;X0 2;X4 0;E9 4;R10;K2;S9 8;Z0 0;X1 3;F0 5");
        tariff.item(1, 6, 1, 1, 1);
        tariff.item(2, 6, 1, 1, 1);
        tariff.service(0, 9);
        tariff.service(0, 0);
        tariff.service(1, 1);
        check.due("nothing yet", Check.explained(tariff), "");
        check.due("a price", tariff.price(0, 7, 0), 90);
        check.due("its parts", Check.explained(tariff), "0 55 1,1 27 7,2 2 0,2 1 9,3 5 10");
        checkWrong(check, tariff, 5);
        check.due("without R", tariff.price(1, 0, 0), 11);
        check.due("its parts", Check.explained(tariff), "0 8 0,1 0 0,2 3 1");
        checkWrong(check, tariff, 3);
        check.due("refused", tariff.price(1, 10, 0), PostTariff.OUTSIDE);
        check.due("refused", tariff.price(9, 0, 0), PostTariff.UNKNOWN);
        check.due("a refusal leaves it", Check.explained(tariff), "0 8 0,1 0 0,2 3 1");
        Check.read(tariff, "K2;S9 9;Z0 0");
        tariff.service(1, 2);
        check.due("it is the price's when it was told", Check.explained(tariff), "0 8 0,1 0 0,2 3 1");
        check.due("none", tariff.price(1, 0, 6), PostTariff.NONE);
        check.due("nothing for NONE", Check.explained(tariff), "");
        checkWrong(check, tariff, 0);
        Check.read(tariff, "K1;S9 20;Z0 0;R10;X0 0;X9 0");
        check.due("a whole price", tariff.price(0, 0, 0), 20);
        check.due("rounding that adds nothing is a part", Check.explained(tariff), "0 20 0,1 0 0,2 0 0,2 0 9,3 0 10");
        Check.read(tariff, "K2;S9 20;Z0 0;R1;X1 0;X2 5");
        tariff.price(1, 0, 0);
        check.due("rounding to whole 1 is a part", Check.explained(tariff), "0 20 0,1 0 0,2 0 1,2 5 2,3 0 1");
        check.end();
    }

    /** There are so many parts, and what is 0 .. 2. */
    private static void checkWrong(Check check, PostTariff tariff, int parts) {
        int[] others = {-1, parts, 13, Integer.MIN_VALUE, Integer.MAX_VALUE};
        for (int i : others) {
            for (int what = -1; what <= 3; what++) {
                check.due("explain(" + i + ", " + what + ")", tariff.explain(i, what), PostTariff.NONE);
            }
        }
        int[] wrong = {-1, 3, Integer.MIN_VALUE, Integer.MAX_VALUE};
        for (int what : wrong) {
            check.due("explain(0, " + what + ")", tariff.explain(0, what), PostTariff.NONE);
        }
    }
}
