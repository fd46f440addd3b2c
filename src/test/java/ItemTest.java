/** Promise 4: items are numbered from 0, 100 at most. */
public final class ItemTest {
    private static final int[] WRONG = {0, -1, 100001, Integer.MIN_VALUE, Integer.MAX_VALUE};

    public static void main(String[] args) {
        Check check = new Check("ItemTest");
        PostTariff tariff = Check.tariffOf("K3;S100000 7;Z0 0");
        int[] wrongKinds = {-1, 10, Integer.MIN_VALUE, Integer.MAX_VALUE};
        for (int kind : wrongKinds) {
            check.due("item of kind " + kind, tariff.item(kind, 1, 1, 1, 1), PostTariff.OUTSIDE);
        }
        for (int measure : WRONG) {
            check.due("weight " + measure, tariff.item(3, measure, 1, 1, 1), PostTariff.OUTSIDE);
            check.due("width " + measure, tariff.item(3, 1, measure, 1, 1), PostTariff.OUTSIDE);
            check.due("height " + measure, tariff.item(3, 1, 1, measure, 1), PostTariff.OUTSIDE);
            check.due("depth " + measure, tariff.item(3, 1, 1, 1, measure), PostTariff.OUTSIDE);
        }
        check.due("none of these is an item", tariff.service(0, 0), PostTariff.UNKNOWN);
        check.due("the first one", tariff.item(0, 1, 1, 1, 1), 0);
        check.due("the greatest one", tariff.item(9, 100000, 100000, 100000, 100000), 1);
        for (int i = 2; i < 100; i++) {
            check.due("item " + i, tariff.item(3, 1, 1, 1, 1), i);
        }
        check.due("a hundred and first", tariff.item(3, 1, 1, 1, 1), PostTariff.ROOM);
        check.due("OUTSIDE comes before ROOM", tariff.item(10, 1, 1, 1, 1), PostTariff.OUTSIDE);
        check.due("the last one", tariff.price(99, 0, 0), 7);
        check.due("there is no other", tariff.price(100, 0, 0), PostTariff.UNKNOWN);
        check.due("a new one has no services", tariff.service(99, 4), 1);
        check.end();
    }
}
