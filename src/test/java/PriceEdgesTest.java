/** The term THE PRICE: each case in which there is none, and each part of it, on both sides of its edge. */
public final class PriceEdgesTest {
    private static final int[] SMALL = {1, 1, 1};
    private static final int NO_PRICE = PostTariff.NONE;

    private final Check check = new Check("PriceEdgesTest");

    public static void main(String[] args) {
        PriceEdgesTest test = new PriceEdgesTest();
        test.noneIfTheKindIsNotThere();
        test.noneIfTheDayIsNotOneOfItsDays();
        test.noneIfTheZoneHasNoRow();
        test.noneIfTheItemIsTooLarge();
        test.noneIfAServiceHasNoRow();
        test.noneIfTwoServicesExcludeEachOther();
        test.noneIfTheWeightIsAboveAllSteps();
        test.theWeightByVolume();
        test.theVolumeIsRoundedUp();
        test.theFirstStepNotBelow();
        test.theZoneIsCut();
        test.allItsServices();
        test.roundedUpToWhole();
        test.check.end();
    }

    /** An item of kind 1 with services, of one weight and size, to a zone on a day; and what explain tells. */
    private void price(String text, int weight, int[] size, String services, int zone, long day, long want, String parts) {
        Run run = new Run(check).edition(text).item(1, weight, size[0], size[1], size[2], 0);
        for (int i = 0; i < services.length(); i++) {
            run.service(0, services.charAt(i) - '0', i + 1);
        }
        run.price(0, zone, day, want).least(0, zone, day, want == NO_PRICE ? NO_PRICE : 1).parts(parts);
    }

    private void byWeight(String text, int weight, long want, String parts) {
        price(text, weight, SMALL, "", 0, 0, want, parts);
    }

    /** A price of 1, or none. */
    private void bySize(String text, int width, int height, int depth, long want) {
        price(text, 1, new int[] {width, height, depth}, "", 0, 0, want, want == NO_PRICE ? "" : "0 1 0,1 0 0");
    }

    private void byServices(String text, String services, long want, String parts) {
        price(text, 1, SMALL, services, 0, 0, want, parts);
    }

    private void noneIfTheKindIsNotThere() {
        check.sentence("there is none if the kind is not there");
        Run run = new Run(check).edition("K4;S1 7;Z0 0");
        for (int k = 0; k <= 9; k++) {
            run.item(k, 1, 1, 1, 1, k).price(k, 0, 0, k == 4 ? 7 : NO_PRICE).parts(k == 4 ? "0 7 0,1 0 0" : "");
            run.least(k, 0, 0, 4);
        }
        Run all = new Run(check).edition("K9;S1 9;Z0 0;K0;S1 0;Z0 0");
        all.item(0, 1, 1, 1, 1, 0).item(1, 1, 1, 1, 1, 1).item(8, 1, 1, 1, 1, 2).item(9, 1, 1, 1, 1, 3);
        all.price(0, 0, 0, 0).price(1, 0, 0, NO_PRICE).price(2, 0, 0, NO_PRICE).price(3, 0, 0, 9);
        new Run(check).edition("").item(0, 1, 1, 1, 1, 0).price(0, 0, 0, NO_PRICE).least(0, 0, 0, NO_PRICE);
    }

    private void noneIfTheDayIsNotOneOfItsDays() {
        check.sentence("the day is not one of its F: from day a to day b, both");
        String text = "K1;S1 7;Z0 0;F100 200";
        long[] within = {100, 101, 150, 199, 200};
        for (long day : within) {
            price(text, 1, SMALL, "", 0, day, 7, "0 7 0,1 0 0");
        }
        long[] others = {0, 1, 98, 99, 201, 202, 9999999};
        for (long day : others) {
            price(text, 1, SMALL, "", 0, day, NO_PRICE, "");
        }
        String one = "K1;S1 7;Z0 0;F100 100";
        price(one, 1, SMALL, "", 0, 99, NO_PRICE, "");
        price(one, 1, SMALL, "", 0, 100, 7, "0 7 0,1 0 0");
        price(one, 1, SMALL, "", 0, 101, NO_PRICE, "");
        price("K1;S1 7;Z0 0;F0 0", 1, SMALL, "", 0, 0, 7, "0 7 0,1 0 0");
        price("K1;S1 7;Z0 0;F0 0", 1, SMALL, "", 0, 1, NO_PRICE, "");
        price("K1;S1 7;Z0 0;F0 1", 1, SMALL, "", 0, 1, 7, "0 7 0,1 0 0");
        price("K1;S1 7;Z0 0;F9999999 9999999", 1, SMALL, "", 0, 9999998, NO_PRICE, "");
        price("K1;S1 7;Z0 0;F9999999 9999999", 1, SMALL, "", 0, 9999999, 7, "0 7 0,1 0 0");
        price("K1;S1 7;Z0 0", 1, SMALL, "", 0, 0, 7, "0 7 0,1 0 0");
        price("K1;S1 7;Z0 0", 1, SMALL, "", 0, 9999999, 7, "0 7 0,1 0 0");
    }

    private void noneIfTheZoneHasNoRow() {
        check.sentence("the zone has no Z");
        for (int z = 0; z <= 9; z++) {
            String text = "K1;S1 100;Z" + z + " 7";
            for (int to = 0; to <= 9; to++) {
                price(text, 1, SMALL, "", to, 0, to == z ? 107 : NO_PRICE, to == z ? "0 100 0,1 7 " + z : "");
            }
        }
        price("K1;S1 100", 1, SMALL, "", 0, 0, NO_PRICE, "");
        price("K1;S1 100;X0 7", 1, SMALL, "", 0, 0, NO_PRICE, "");
        price("K1;S1 100;Z0 0", 1, SMALL, "", 0, 0, 100, "0 100 0,1 0 0");
    }

    private void noneIfTheItemIsTooLarge() {
        check.sentence("the item is wider, higher or deeper than D");
        String text = "K1;S1 1;Z0 0;D10 20 30";
        bySize(text, 1, 1, 1, 1);
        bySize(text, 9, 19, 29, 1);
        bySize(text, 10, 20, 30, 1);
        bySize(text, 11, 20, 30, NO_PRICE);
        bySize(text, 11, 1, 1, NO_PRICE);
        bySize(text, 10, 21, 30, NO_PRICE);
        bySize(text, 1, 21, 1, NO_PRICE);
        bySize(text, 10, 20, 31, NO_PRICE);
        bySize(text, 1, 1, 31, NO_PRICE);
        bySize(text, 30, 20, 10, NO_PRICE);
        bySize("K1;S1 1;Z0 0;D1 1 1", 1, 1, 1, 1);
        bySize("K1;S1 1;Z0 0;D1 1 1", 2, 1, 1, NO_PRICE);
        bySize("K1;S1 1;Z0 0;D1 1 1", 1, 2, 1, NO_PRICE);
        bySize("K1;S1 1;Z0 0;D1 1 1", 1, 1, 2, NO_PRICE);
        bySize("K1;S1 1;Z0 0;D100000 100000 100000", 100000, 100000, 100000, 1);
        bySize("K1;S1 1;Z0 0;D99999 100000 100000", 100000, 100000, 100000, NO_PRICE);
        bySize("K1;S1 1;Z0 0;D100000 99999 100000", 100000, 100000, 100000, NO_PRICE);
        bySize("K1;S1 1;Z0 0;D100000 100000 99999", 100000, 100000, 100000, NO_PRICE);
        bySize("K1;S1 1;Z0 0", 100000, 100000, 100000, 1);
    }

    private void noneIfAServiceHasNoRow() {
        check.sentence("it has a service without X");
        for (int s = 0; s <= 9; s++) {
            String text = "K1;S1 1;Z0 0;X" + s + " 5";
            byServices(text, "", 1, "0 1 0,1 0 0");
            for (int has = 0; has <= 9; has++) {
                byServices(text, String.valueOf(has), has == s ? 6 : NO_PRICE, has == s ? "0 1 0,1 0 0,2 5 " + s : "");
            }
            byServices(text, "" + s + (s + 1) % 10, NO_PRICE, "");
            byServices(text, "" + (s + 9) % 10 + s, NO_PRICE, "");
        }
        byServices("K1;S1 1;Z0 0", "", 1, "0 1 0,1 0 0");
        byServices("K1;S1 1;Z0 0", "0", NO_PRICE, "");
        byServices("K1;S1 1;Z0 0;X3 0", "3", 1, "0 1 0,1 0 0,2 0 3");
    }

    private void noneIfTwoServicesExcludeEachOther() {
        check.sentence("or two that exclude each other");
        String head = "K1;S1 1;Z0 0;" + Texts.manyRows("X", 0, 9, " 0");
        for (int s = 0; s <= 9; s++) {
            for (int t = 0; t <= 9; t++) {
                if (s == t) {
                    continue;
                }
                String text = head + ";E" + s + " " + t;
                byServices(text, "" + s, 1, "0 1 0,1 0 0,2 0 " + s);
                byServices(text, "" + t, 1, "0 1 0,1 0 0,2 0 " + t);
                byServices(text, "" + s + t, NO_PRICE, "");
                byServices(text, "" + t + s, NO_PRICE, "");
            }
        }
        String text = head + ";E1 2;E2 3";
        byServices(text, "13", 1, "0 1 0,1 0 0,2 0 1,2 0 3");
        byServices(text, "12", NO_PRICE, "");
        byServices(text, "23", NO_PRICE, "");
        byServices(text, "0123456789", NO_PRICE, "");
        byServices(text, "013456789", 1, "0 1 0,1 0 0,2 0 0,2 0 1,2 0 3,2 0 4,2 0 5,2 0 6,2 0 7,2 0 8,2 0 9");
        byServices(text, "02", 1, "0 1 0,1 0 0,2 0 0,2 0 2");
    }

    private void noneIfTheWeightIsAboveAllSteps() {
        check.sentence("or its weight is above all steps");
        byWeight("K1;S1 7;Z0 0", 1, 7, "0 7 0,1 0 0");
        byWeight("K1;S1 7;Z0 0", 2, NO_PRICE, "");
        byWeight("K1;S50 7;S60 8;Z0 0", 59, 8, "0 8 1,1 0 0");
        byWeight("K1;S50 7;S60 8;Z0 0", 60, 8, "0 8 1,1 0 0");
        byWeight("K1;S50 7;S60 8;Z0 0", 61, NO_PRICE, "");
        byWeight("K1;S99999 7;Z0 0", 99999, 7, "0 7 0,1 0 0");
        byWeight("K1;S99999 7;Z0 0", 100000, NO_PRICE, "");
        byWeight("K1;S9999999 7;Z0 0", 100000, 7, "0 7 0,1 0 0");
    }

    private void theWeightByVolume() {
        check.sentence("with M, width times height times depth divided by the divisor .. if that is more");
        String text = "K1;S9 1;S10 2;S11 3;Z0 0;M1";
        int[] ten = {5, 2, 1};
        price(text, 9, ten, "", 0, 0, 2, "0 2 1,1 0 0");
        price(text, 10, ten, "", 0, 0, 2, "0 2 1,1 0 0");
        price(text, 11, ten, "", 0, 0, 3, "0 3 2,1 0 0");
        price(text, 12, ten, "", 0, 0, NO_PRICE, "");
        price(text, 1, new int[] {3, 3, 1}, "", 0, 0, 1, "0 1 0,1 0 0");
        price(text, 1, new int[] {11, 1, 1}, "", 0, 0, 3, "0 3 2,1 0 0");
        price(text, 1, new int[] {1, 11, 1}, "", 0, 0, 3, "0 3 2,1 0 0");
        price(text, 1, new int[] {1, 1, 11}, "", 0, 0, 3, "0 3 2,1 0 0");
        price(text, 1, new int[] {12, 1, 1}, "", 0, 0, NO_PRICE, "");
        price(text, 1, new int[] {1, 12, 1}, "", 0, 0, NO_PRICE, "");
        price(text, 1, new int[] {1, 1, 12}, "", 0, 0, NO_PRICE, "");
        price(text, 1, new int[] {2, 2, 3}, "", 0, 0, NO_PRICE, "");
        price(text.replace(";M1", ""), 1, new int[] {2, 2, 3}, "", 0, 0, 1, "0 1 0,1 0 0");
        int[] greatest = {100000, 100000, 100000};
        price("K1;S9999999 1;Z0 0;M1", 1, greatest, "", 0, 0, NO_PRICE, "");
        price("K1;S9999999 1;Z0 0;M9999999", 1, greatest, "", 0, 0, NO_PRICE, "");
        price("K1;S9999999 1;Z0 0", 1, greatest, "", 0, 0, 1, "0 1 0,1 0 0");
        // 2^32 + 2^16 by a divisor of 1: cut to an int it would be light
        price("K1;S9999999 1;Z0 0;M1", 1, new int[] {65536, 65537, 1}, "", 0, 0, NO_PRICE, "");
        price("K1;S9999999 1;Z0 0;M1", 1, new int[] {65536, 65536, 65536}, "", 0, 0, NO_PRICE, "");
        price("K1;S100000 1;Z0 0;M100000", 1, new int[] {100000, 100000, 1}, "", 0, 0, 1, "0 1 0,1 0 0");
        price("K1;S99999 1;Z0 0;M100000", 1, new int[] {100000, 100000, 1}, "", 0, 0, NO_PRICE, "");
    }

    private void theVolumeIsRoundedUp() {
        check.sentence("divided by the divisor, rounded up");
        String text = "K1;S1 1;S2 2;S3 3;Z0 0;M100";
        price(text, 1, new int[] {1, 1, 1}, "", 0, 0, 1, "0 1 0,1 0 0");
        price(text, 1, new int[] {99, 1, 1}, "", 0, 0, 1, "0 1 0,1 0 0");
        price(text, 1, new int[] {100, 1, 1}, "", 0, 0, 1, "0 1 0,1 0 0");
        price(text, 1, new int[] {101, 1, 1}, "", 0, 0, 2, "0 2 1,1 0 0");
        price(text, 1, new int[] {199, 1, 1}, "", 0, 0, 2, "0 2 1,1 0 0");
        price(text, 1, new int[] {200, 1, 1}, "", 0, 0, 2, "0 2 1,1 0 0");
        price(text, 1, new int[] {201, 1, 1}, "", 0, 0, 3, "0 3 2,1 0 0");
        price(text, 1, new int[] {300, 1, 1}, "", 0, 0, 3, "0 3 2,1 0 0");
        price(text, 1, new int[] {301, 1, 1}, "", 0, 0, NO_PRICE, "");
        price("K1;S1 1;S2 2;Z0 0;M9999999", 1, new int[] {9999, 1000, 1}, "", 0, 0, 1, "0 1 0,1 0 0");
        price("K1;S1 1;S2 2;Z0 0;M9999999", 1, new int[] {10000, 1000, 1}, "", 0, 0, 2, "0 2 1,1 0 0");
        price("K1;S1 1;S2 2;Z0 0;M9999990", 1, new int[] {99999, 100, 1}, "", 0, 0, 1, "0 1 0,1 0 0");
        price("K1;S1 1;S2 2;Z0 0;M9999899", 1, new int[] {99999, 100, 1}, "", 0, 0, 2, "0 2 1,1 0 0");
    }

    private void theFirstStepNotBelow() {
        check.sentence("it is the first step's with a w not below that weight");
        String text = "K1;S10 30;S20 20;S30 10;Z0 0";
        byWeight(text, 1, 30, "0 30 0,1 0 0");
        byWeight(text, 9, 30, "0 30 0,1 0 0");
        byWeight(text, 10, 30, "0 30 0,1 0 0");
        byWeight(text, 11, 20, "0 20 1,1 0 0");
        byWeight(text, 19, 20, "0 20 1,1 0 0");
        byWeight(text, 20, 20, "0 20 1,1 0 0");
        byWeight(text, 21, 10, "0 10 2,1 0 0");
        byWeight(text, 30, 10, "0 10 2,1 0 0");
        byWeight(text, 31, NO_PRICE, "");
        String ten = "K1;S10 1;S20 2;S30 3;S40 4;S50 5;S60 6;S70 7;S80 8;S90 9;S100 0;Z0 0";
        for (int step = 0; step <= 9; step++) {
            int cost = (step + 1) % 10;
            byWeight(ten, step * 10 + 1, cost, "0 " + cost + " " + step + ",1 0 0");
            byWeight(ten, step * 10 + 9, cost, "0 " + cost + " " + step + ",1 0 0");
            byWeight(ten, step * 10 + 10, cost, "0 " + cost + " " + step + ",1 0 0");
        }
        byWeight(ten, 101, NO_PRICE, "");
    }

    private void zone(int cost, int p, long adds) {
        byWeight("K1;S1 " + cost + ";Z0 " + p, 1, cost + adds, "0 " + cost + " 0,1 " + adds + " 0");
    }

    private void theZoneIsCut() {
        check.sentence("and p in 100 of that, cut");
        zone(0, 0, 0);
        zone(0, 1000, 0);
        zone(99, 1, 0);
        zone(100, 1, 1);
        zone(101, 1, 1);
        zone(199, 1, 1);
        zone(200, 1, 2);
        zone(1, 99, 0);
        zone(1, 100, 1);
        zone(1, 101, 1);
        zone(1, 199, 1);
        zone(1, 200, 2);
        zone(1, 999, 9);
        zone(1, 1000, 10);
        zone(3, 33, 0);
        zone(3, 34, 1);
        zone(9999999, 0, 0);
        zone(9999999, 1, 99999);
        zone(9999999, 99, 9899999);
        zone(9999999, 100, 9999999);
        zone(9999999, 214, 21399997);
        zone(9999999, 215, 21499997);
        zone(9999999, 999, 99899990);
        zone(9999999, 1000, 99999990);
        price("K1;S1 50;Z0 50;X0 50;R1", 1, SMALL, "0", 0, 0, 125, "0 50 0,1 25 0,2 50 0,3 0 1");
    }

    private void allItsServices() {
        check.sentence("and all its services");
        String text = "K1;S1 100;Z0 0;X0 1;X1 2;X2 4;X3 8;X4 16;X5 32;X6 64;X7 128;X8 256;X9 512";
        byServices(text, "", 100, "0 100 0,1 0 0");
        for (int s = 0; s <= 9; s++) {
            int cost = 1 << s;
            byServices(text, "" + s, 100 + cost, "0 100 0,1 0 0,2 " + cost + " " + s);
        }
        byServices(text, "90", 613, "0 100 0,1 0 0,2 1 0,2 512 9");
        byServices(text, "9876543210", 1123, "0 100 0,1 0 0,2 1 0,2 2 1,2 4 2,2 8 3,2 16 4,2 32 5,2 64 6,2 128 7,"
                + "2 256 8,2 512 9");
        byServices("K1;S1 1;Z0 0;X4 9999999", "4", 10000000, "0 1 0,1 0 0,2 9999999 4");
    }

    private void rounded(int cost, int n, int adds) {
        byWeight("K1;S1 " + cost + ";Z0 0;R" + n, 1, cost + adds, "0 " + cost + " 0,1 0 0,3 " + adds + " " + n);
    }

    private void roundedUpToWhole() {
        check.sentence("rounded up to whole n");
        rounded(0, 1, 0);
        rounded(1, 1, 0);
        rounded(9999999, 1, 0);
        rounded(0, 2, 0);
        rounded(1, 2, 1);
        rounded(2, 2, 0);
        rounded(3, 2, 1);
        rounded(0, 1000, 0);
        rounded(1, 1000, 999);
        rounded(999, 1000, 1);
        rounded(1000, 1000, 0);
        rounded(1001, 1000, 999);
        rounded(9999999, 1000, 1);
        rounded(9999999, 999, 990);
        byWeight("K1;S1 99;Z0 1;R10", 1, 100, "0 99 0,1 0 0,3 1 10");
        byWeight("K1;S1 99;Z0 2;R10", 1, 100, "0 99 0,1 1 0,3 0 10");
        byWeight("K1;S1 99;Z0 3;R10", 1, 110, "0 99 0,1 2 0,3 9 10");
        byServices("K1;S1 9;Z0 0;X1 1;R10", "1", 10, "0 9 0,1 0 0,2 1 1,3 0 10");
        byServices("K1;S1 9;Z0 0;X1 2;R10", "1", 20, "0 9 0,1 0 0,2 2 1,3 9 10");
        byServices("K1;S1 9;Z0 0;X1 0;R10", "1", 10, "0 9 0,1 0 0,2 0 1,3 1 10");
        byWeight("K1;S1 9;Z0 0", 1, 9, "0 9 0,1 0 0");
    }
}
