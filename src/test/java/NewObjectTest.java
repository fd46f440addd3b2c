/** Promise 1: a new object has no edition and no items. */
public final class NewObjectTest {
    public static void main(String[] args) {
        Check check = new Check("NewObjectTest");
        PostTariff tariff = new PostTariff();
        check.due("print()", tariff.print(), PostTariff.STATE);
        check.due("at(0)", tariff.at(0), PostTariff.NONE);
        check.due("compare(0)", tariff.compare(0), PostTariff.UNKNOWN);
        check.due("explain(0, 0)", tariff.explain(0, 0), PostTariff.NONE);
        check.due("service(0, 0)", tariff.service(0, 0), PostTariff.UNKNOWN);
        check.due("price(0, 0, 0)", tariff.price(0, 0, 0), PostTariff.UNKNOWN);
        check.due("least(0, 0, 0)", tariff.least(0, 0, 0), PostTariff.UNKNOWN);
        check.due("item", tariff.item(0, 1, 1, 1, 1), 0);
        check.due("price without an edition", tariff.price(0, 0, 0), PostTariff.STATE);
        check.due("least without an edition", tariff.least(0, 0, 0), PostTariff.STATE);
        check.due("read() of no text", tariff.read(), 0);
        check.due("print() of no kinds", tariff.print(), 0);
        check.due("price with no kinds", tariff.price(0, 0, 0), PostTariff.NONE);
        PostTariff other = new PostTariff();
        check.due("another object's items", other.service(0, 0), PostTariff.UNKNOWN);
        check.due("another object's editions", other.compare(0), PostTariff.UNKNOWN);
        check.end();
    }
}
