/** Promise 5: an item has a service from now on; how many it has. */
public final class ServiceTest {
    public static void main(String[] args) {
        Check check = new Check("ServiceTest");
        PostTariff tariff = Check.tariffOf("K1;S5 10;Z0 0;X0 1;X3 2;X9 4");
        tariff.item(1, 5, 1, 1, 1);
        tariff.item(1, 5, 1, 1, 1);
        check.due("the first one", tariff.service(0, 3), 1);
        check.due("the same again", tariff.service(0, 3), 1);
        check.due("its price", tariff.price(0, 0, 0), 12);
        check.due("another", tariff.service(0, 9), 2);
        check.due("a third", tariff.service(0, 0), 3);
        check.due("its price", tariff.price(0, 0, 0), 17);
        check.due("another item's", tariff.price(1, 0, 0), 10);
        check.due("another item's first", tariff.service(1, 9), 1);
        int[] wrong = {-1, 10, 32, 35, Integer.MIN_VALUE, Integer.MAX_VALUE};
        for (int s : wrong) {
            check.due("service " + s, tariff.service(0, s), PostTariff.OUTSIDE);
            check.due("UNKNOWN comes before OUTSIDE", tariff.service(2, s), PostTariff.UNKNOWN);
        }
        check.due("no item", tariff.service(2, 0), PostTariff.UNKNOWN);
        check.due("no item", tariff.service(-1, 0), PostTariff.UNKNOWN);
        check.due("no item", tariff.service(Integer.MAX_VALUE, 0), PostTariff.UNKNOWN);
        check.due("no item", tariff.service(Integer.MIN_VALUE, 0), PostTariff.UNKNOWN);
        check.due("what is refused changes nothing", tariff.price(0, 0, 0), 17);
        for (int s = 0; s <= 9; s++) {
            tariff.service(1, s);
        }
        check.due("all of them", tariff.service(1, 5), 10);
        check.end();
    }
}
