/** Promise 9: a volume divided by a divisor, rounded up. */
public final class DimensionalTest {
    private static final long MOST = 1000000000000000L;

    public static void main(String[] args) {
        Check check = new Check("DimensionalTest");
        PostTariff tariff = new PostTariff();
        check.due("0 by 1", tariff.dimensional(0, 1), 0);
        check.due("0 by 10^15", tariff.dimensional(0, MOST), 0);
        check.due("1 by 10^15", tariff.dimensional(1, MOST), 1);
        check.due("999 by 1000", tariff.dimensional(999, 1000), 1);
        check.due("1000 by 1000", tariff.dimensional(1000, 1000), 1);
        check.due("1001 by 1000", tariff.dimensional(1001, 1000), 2);
        check.due("10^15 by 1", tariff.dimensional(MOST, 1), MOST);
        check.due("10^15 by 3", tariff.dimensional(MOST, 3), 333333333333334L);
        check.due("10^15 by 10^15", tariff.dimensional(MOST, MOST), 1);
        check.due("10^15 by 10^15 - 1", tariff.dimensional(MOST, MOST - 1), 2);
        long[] wrong = {-1, MOST + 1, Long.MIN_VALUE, Long.MAX_VALUE};
        for (long number : wrong) {
            check.due(number + " by 1", tariff.dimensional(number, 1), PostTariff.OUTSIDE);
            check.due("1 by " + number, tariff.dimensional(1, number), PostTariff.OUTSIDE);
            check.due(number + " by 0 is looked at first", tariff.dimensional(number, 0), PostTariff.OUTSIDE);
            check.due("0 by " + number, tariff.dimensional(0, number), PostTariff.OUTSIDE);
        }
        long[] volumes = {0, 1, MOST};
        for (long volume : volumes) {
            check.due(volume + " by 0 throws", doesThrow(tariff, volume) ? 1 : 0, 1);
        }
        check.end();
    }

    private static boolean doesThrow(PostTariff tariff, long volume) {
        try {
            tariff.dimensional(volume, 0);
            return false;
        } catch (ArithmeticException expected) {
            // a throw statement of the class itself, not a division's
            return expected.getClass() == ArithmeticException.class && !"/ by zero".equals(expected.getMessage());
        }
    }
}
