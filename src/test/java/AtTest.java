/** Promise 12: the characters of what was printed latest. */
public final class AtTest {
    public static void main(String[] args) {
        Check check = new Check("AtTest");
        PostTariff tariff = new PostTariff();
        check.due("nothing is printed", tariff.at(0), PostTariff.NONE);
        tariff.print();
        check.due("a refused print() prints nothing", tariff.at(0), PostTariff.NONE);
        Check.read(tariff, "K1;S23 45");
        check.due("nothing is printed yet", tariff.at(0), PostTariff.NONE);
        tariff.print();
        String want = "K1;S23 45";
        for (int i = 0; i < want.length(); i++) {
            check.due("at(" + i + ")", tariff.at(i), want.charAt(i));
        }
        int[] wrong = {-1, 9, 10, 1499, 1500, Integer.MIN_VALUE, Integer.MAX_VALUE};
        for (int i : wrong) {
            check.due("at(" + i + ")", tariff.at(i), PostTariff.NONE);
        }
        Check.read(tariff, "K7;S1 1");
        check.due("what was printed stays", tariff.at(1), '1');
        check.due("what was printed stays", tariff.at(8), '5');
        tariff.print();
        check.due("what is printed now", tariff.at(1), '7');
        check.due("it is shorter", tariff.at(7), PostTariff.NONE);
        check.due("its last one", tariff.at(6), '1');
        Check.read(tariff, "");
        tariff.print();
        check.due("nothing is printed now", tariff.at(0), PostTariff.NONE);
        check.end();
    }
}
