/** Promise 7: the kind as which an item's price is least. */
public final class LeastTest {
    public static void main(String[] args) {
        Check check = new Check("LeastTest");
        PostTariff tariff = Check.tariffOf(
                "K9;S9 5;Z0 0;Z1 0;F0 9;K4;S9 7;Z0 0;K2;S9 5;Z0 0;F0 4;K0;S2 1;Z0 0;K5;S9 5;Z0 0;X3 0");
        tariff.item(4, 3, 1, 1, 1);
        tariff.item(7, 2, 1, 1, 1);
        tariff.item(0, 10, 1, 1, 1);
        check.due("of several the least", tariff.least(0, 0, 0), 2);
        check.due("of several on a later day", tariff.least(0, 0, 5), 5);
        check.due("to another zone", tariff.least(0, 1, 0), 9);
        check.due("to another zone on a later day", tariff.least(0, 1, 10), PostTariff.NONE);
        check.due("by its weight", tariff.least(1, 0, 0), 0);
        check.due("of a kind that is not there", tariff.price(1, 0, 0), PostTariff.NONE);
        check.due("too heavy for all", tariff.least(2, 0, 0), PostTariff.NONE);
        check.due("what explain tells", tariff.price(0, 0, 0), 7);
        tariff.service(0, 3);
        check.due("with a service", tariff.least(0, 0, 0), 5);
        check.due("what explain tells stays", Check.explained(tariff), "0 7 0,1 0 0");
        check.due("no such item", tariff.least(3, -1, -1), PostTariff.UNKNOWN);
        check.due("item -1", tariff.least(-1, 0, 0), PostTariff.UNKNOWN);
        check.due("zone -1", tariff.least(0, -1, 0), PostTariff.OUTSIDE);
        check.due("zone 10", tariff.least(0, 10, 0), PostTariff.OUTSIDE);
        check.due("day -1", tariff.least(0, 0, -1), PostTariff.OUTSIDE);
        check.due("day 10000000", tariff.least(0, 0, 10000000), PostTariff.OUTSIDE);
        check.due("what is refused changes nothing", Check.explained(tariff), "0 7 0,1 0 0");
        PostTariff bare = new PostTariff();
        bare.item(0, 1, 1, 1, 1);
        check.due("OUTSIDE comes before STATE", bare.least(0, 10, 0), PostTariff.OUTSIDE);
        check.due("no edition", bare.least(0, 0, 0), PostTariff.STATE);
        Check.read(bare, "");
        check.due("no kinds", bare.least(0, 0, 0), PostTariff.NONE);
        Check.read(bare, "K0;S1 0;Z0 0;R5;K1;S1 0;Z0 9");
        check.due("a price of 0", bare.least(0, 0, 0), 0);
        check.end();
    }
}
