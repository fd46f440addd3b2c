/** Promise 6: the price of an item as its kind. */
public final class PriceTest {
    private final Check check = new Check("PriceTest");

    public static void main(String[] args) {
        PriceTest test = new PriceTest();
        test.checkSteps();
        test.checkZones();
        test.checkDays();
        test.checkSizes();
        test.checkVolumes();
        test.checkServices();
        test.checkRounding();
        test.checkRefusals();
        test.checkLatest();
        test.checkGreatest();
        test.check.end();
    }

    /** The price of an item of kind 1, of one weight and size, to a zone on a day. */
    private void price(String text, int weight, int[] size, int zone, long day, long want) {
        PostTariff tariff = Check.tariffOf(text);
        tariff.item(1, weight, size[0], size[1], size[2]);
        check.due("price of " + weight + " by " + text, tariff.price(0, zone, day), want);
    }

    private void priceByWeight(String text, int weight, long want) {
        price(text, weight, new int[] {1, 1, 1}, 0, 0, want);
    }

    private void checkSteps() {
        String text = "K1;S100 85;S500 140;S501 3;Z0 0";
        priceByWeight(text, 1, 85);
        priceByWeight(text, 100, 85);
        priceByWeight(text, 101, 140);
        priceByWeight(text, 500, 140);
        priceByWeight(text, 501, 3);
        priceByWeight(text, 502, PostTariff.NONE);
        priceByWeight("K2;S100 85;Z0 0", 1, PostTariff.NONE);
        priceByWeight("K0;S9 1;Z0 0;K1;S9 2;Z0 0;K2;S9 3;Z0 0", 1, 2);
        priceByWeight("K1;S9 0;Z0 1000", 1, 0);
    }

    private void checkZones() {
        String text = "K1;S9 199;Z0 0;Z2 25;Z3 1;Z9 1000";
        int[] size = {1, 1, 1};
        price(text, 1, size, 0, 0, 199);
        price(text, 1, size, 1, 0, PostTariff.NONE);
        price(text, 1, size, 2, 0, 199 + 49);
        price(text, 1, size, 3, 0, 199 + 1);
        price(text, 1, size, 9, 0, 199 + 1990);
    }

    private void checkDays() {
        String text = "K1;S9 5;Z0 0;F10 20";
        int[] size = {1, 1, 1};
        price(text, 1, size, 0, 9, PostTariff.NONE);
        price(text, 1, size, 0, 10, 5);
        price(text, 1, size, 0, 20, 5);
        price(text, 1, size, 0, 21, PostTariff.NONE);
        price("K1;S9 5;Z0 0;F0 0", 1, size, 0, 0, 5);
        price("K1;S9 5;Z0 0;F0 0", 1, size, 0, 1, PostTariff.NONE);
        price("K1;S9 5;Z0 0", 1, size, 0, 9999999, 5);
    }

    private void checkSizes() {
        String text = "K1;S9 5;Z0 0;D10 20 30";
        price(text, 1, new int[] {10, 20, 30}, 0, 0, 5);
        price(text, 1, new int[] {11, 20, 30}, 0, 0, PostTariff.NONE);
        price(text, 1, new int[] {10, 21, 30}, 0, 0, PostTariff.NONE);
        price(text, 1, new int[] {10, 20, 31}, 0, 0, PostTariff.NONE);
        price("K1;S9 5;Z0 0", 1, new int[] {100000, 100000, 100000}, 0, 0, 5);
    }

    private void checkVolumes() {
        String text = "K1;S9 1;S10 2;S11 3;Z0 0;M100";
        price(text, 1, new int[] {10, 10, 9}, 0, 0, 1);
        price(text, 1, new int[] {10, 10, 10}, 0, 0, 2);
        price(text, 1, new int[] {7, 11, 13}, 0, 0, 3);
        price(text, 1, new int[] {10, 11, 10}, 0, 0, 3);
        price(text, 1, new int[] {3, 3, 123}, 0, 0, PostTariff.NONE);
        price(text, 11, new int[] {10, 10, 9}, 0, 0, 3);
        price(text, 9, new int[] {1, 1, 1}, 0, 0, 1);
        int[] greatest = {100000, 100000, 100000};
        price("K1;S9999999 1;Z0 0;M1", 1, greatest, 0, 0, PostTariff.NONE);
        price("K1;S9999999 1;Z0 0;M9999999", 1, greatest, 0, 0, PostTariff.NONE);
        price("K1;S9999999 1;Z0 0;M1000", 1, new int[] {100000, 100000, 1}, 0, 0, PostTariff.NONE);
        price("K1;S9999999 1;Z0 0;M1001", 1, new int[] {100000, 100000, 1}, 0, 0, 1);
    }

    private void checkServices() {
        PostTariff tariff = Check.tariffOf("K1;S9 100;Z0 10;X1 7;X2 20;X3 300;E3 1;R1");
        tariff.item(1, 1, 1, 1, 1);
        check.due("without services", tariff.price(0, 0, 0), 110);
        tariff.service(0, 2);
        check.due("with 2", tariff.price(0, 0, 0), 130);
        tariff.service(0, 1);
        check.due("with 1 and 2", tariff.price(0, 0, 0), 137);
        tariff.service(0, 3);
        check.due("with 1, 2 and 3", tariff.price(0, 0, 0), PostTariff.NONE);
        tariff.item(1, 1, 1, 1, 1);
        tariff.service(1, 3);
        tariff.service(1, 2);
        check.due("with 2 and 3", tariff.price(1, 0, 0), 430);
        tariff.service(1, 0);
        check.due("with one without X", tariff.price(1, 0, 0), PostTariff.NONE);
    }

    private void checkRounding() {
        priceByWeight("K1;S9 100;Z0 0;R10", 1, 100);
        priceByWeight("K1;S9 101;Z0 0;R10", 1, 110);
        priceByWeight("K1;S9 109;Z0 0;R10", 1, 110);
        priceByWeight("K1;S9 1;Z0 0;R1000", 1, 1000);
        priceByWeight("K1;S9 0;Z0 0;R1000", 1, 0);
        priceByWeight("K1;S9 1001;Z0 0;R1000", 1, 2000);
    }

    private void checkRefusals() {
        PostTariff tariff = new PostTariff();
        tariff.item(1, 1, 1, 1, 1);
        check.due("OUTSIDE comes before STATE", tariff.price(0, 10, 0), PostTariff.OUTSIDE);
        check.due("no edition", tariff.price(0, 0, 0), PostTariff.STATE);
        Check.read(tariff, "K1;S9 5;Z0 0;Z9 0");
        check.due("UNKNOWN comes before OUTSIDE", tariff.price(1, 10, -1), PostTariff.UNKNOWN);
        check.due("item -1", tariff.price(-1, 0, 0), PostTariff.UNKNOWN);
        check.due("item 100", tariff.price(100, 0, 0), PostTariff.UNKNOWN);
        check.due("no such item at all", tariff.price(Integer.MIN_VALUE, 0, 0), PostTariff.UNKNOWN);
        check.due("zone -1", tariff.price(0, -1, 0), PostTariff.OUTSIDE);
        check.due("zone 10", tariff.price(0, 10, 0), PostTariff.OUTSIDE);
        check.due("no such zone at all", tariff.price(0, Integer.MAX_VALUE, 0), PostTariff.OUTSIDE);
        check.due("day -1", tariff.price(0, 0, -1), PostTariff.OUTSIDE);
        check.due("day 10000000", tariff.price(0, 0, 10000000), PostTariff.OUTSIDE);
        check.due("day 2^32", tariff.price(0, 0, 1L << 32), PostTariff.OUTSIDE);
        check.due("no such day at all", tariff.price(0, 0, Long.MIN_VALUE), PostTariff.OUTSIDE);
        check.due("the last day, the last zone", tariff.price(0, 9, 9999999), 5);
    }

    private void checkLatest() {
        PostTariff tariff = Check.tariffOf("K1;S9 5;Z0 0;X1 1;X2 1;E1 2;D1 1 1;M1;F1 1;R7");
        tariff.item(1, 9, 9, 9, 9);
        Check.read(tariff, "K1;S9 6;Z0 0");
        check.due("the latest one holds", tariff.price(0, 0, 0), 6);
        Check.read(tariff, "K1;S9 7;Z0 0;K2;");
        check.due("a faulty one does not", tariff.price(0, 0, 0), 6);
        Check.read(tariff, "");
        check.due("an empty one holds, too", tariff.price(0, 0, 0), PostTariff.NONE);
    }

    private void checkGreatest() {
        StringBuilder text = new StringBuilder("K1;S9 9999999;Z0 1000;R1000");
        for (int s = 0; s <= 9; s++) {
            text.append(";X").append(s).append(" 9999999");
        }
        PostTariff tariff = Check.tariffOf(text.toString());
        tariff.item(1, 9, 1, 1, 1);
        for (int s = 0; s <= 9; s++) {
            tariff.service(0, s);
        }
        check.due("the dearest one", tariff.price(0, 0, 0), 210000000L);
        check.due("its zone", tariff.explain(1, 1), 99999990);
        check.due("its rounding", tariff.explain(12, 1), 21);
        check.due("no part behind it", tariff.explain(13, 1), PostTariff.NONE);
    }
}
