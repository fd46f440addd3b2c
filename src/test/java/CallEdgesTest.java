/** The promises 1 to 12, call by call: the edges that each one names; and the 512th call. */
public final class CallEdgesTest {
    private static final long MOST = 1000000000000000L;

    private final Check check = new Check("CallEdgesTest");
    private final Texts texts = new Texts(check);

    public static void main(String[] args) {
        CallEdgesTest test = new CallEdgesTest();
        test.noEditionNoItems();
        test.aCharacterBehindTheText();
        test.notTakenWhenThereAreSoMany();
        test.readTellsHowManyRows();
        test.readTellsThePlaceOfAFault();
        test.theTextIsEmptyThen();
        test.readHasNoRoom();
        test.itemsAreNumberedFromZero();
        test.anItemsNumbers();
        test.anItemIsWithoutServices();
        test.anItemHasAService();
        test.aPriceAsItsKind();
        test.aPricesNumbers();
        test.explainTellsItThen();
        test.explainTellsNothingForNone();
        test.theKindAsWhichItIsLeast();
        test.leastsNumbers();
        test.whatExplainTellsStays();
        test.thePriceToldLatest();
        test.theSortOfAPart();
        test.noSuchPart();
        test.dividedAndRoundedUp();
        test.dimensionalsNumbers();
        test.theDivisorIsZero();
        test.kindsPrintedOtherwise();
        test.oneThatOnlyOneOfThemHas();
        test.howManyCharacters();
        test.characterOfWhatWasPrinted();
        test.whatWasPrintedLatest();
        test.theLastCalls();
        test.check.end();
    }

    private void noEditionNoItems() {
        check.sentence("Promise 1: No edition, no items");
        new Run(check).compare(0, PostTariff.UNKNOWN).print(PostTariff.STATE).at(0, PostTariff.NONE).parts("")
                .service(0, 0, PostTariff.UNKNOWN).price(0, 0, 0, PostTariff.UNKNOWN).least(0, 0, 0, PostTariff.UNKNOWN);
        new Run(check).item(0, 1, 1, 1, 1, 0).price(0, 0, 0, PostTariff.STATE).least(0, 0, 0, PostTariff.STATE)
                .compare(0, PostTariff.UNKNOWN).service(0, 0, 1);
        new Run(check).read(0).compare(0, 0).compare(1, PostTariff.UNKNOWN).service(0, 0, PostTariff.UNKNOWN);
        Run one = new Run(check).edition("K1;S1 1").item(1, 1, 1, 1, 1, 0);
        new Run(check).compare(0, PostTariff.UNKNOWN).service(0, 0, PostTariff.UNKNOWN).read(0);
        one.compare(0, 0).printed("K1;S1 1").service(0, 0, 1);
    }

    private void aCharacterBehindTheText() {
        check.sentence("Promise 2: a character behind the text (0 .. 126); it is not taken when .. it is another one");
        String text = "K1;S1 5";
        for (int c = 0; c <= 126; c++) {
            boolean digit = c >= '0' && c <= '9';
            Run run = new Run(check).text(text).sign(c);
            if (digit) {
                run.read(2).printed(text + (char) c);
            } else {
                run.read(c == ';' ? -9 : -8);
            }
        }
        int[] others = {-1, -2, 127, 128, 255, 256, 256 + '5', 65536 + '5', -'5', Integer.MIN_VALUE, Integer.MAX_VALUE,
            Integer.MIN_VALUE + '5'};
        for (int c : others) {
            new Run(check).text(text).sign(c).read(2).printed(text);
            new Run(check).sign(c).read(0).printed("");
            new Run(check).text("K1;S1").sign(c).text(" 5").read(2).printed(text);
        }
        new Run(check).sign(0).read(-1);
        new Run(check).sign(126).read(-1);
    }

    /** So many signs are more than 512 calls, behind which answers are free: here they are as behind fewer. */
    private void notTakenWhenThereAreSoMany() {
        check.sentence("Promise 2: it is not taken when there are 1500");
        String text = SignTest.longestText();
        int rows = Texts.rowsOf(text);
        check.due("signs", text.length(), 1500);
        String shorter = text.substring(0, 1499);
        String shortest = text.substring(0, 1498);
        check.due("1498 signs", Check.read(new PostTariff(), shortest), rows);
        check.due("1499 signs", Check.read(new PostTariff(), shorter), rows);
        check.due("1500 signs", Check.read(new PostTariff(), text), rows);
        check.due("1500 signs and a digit", Check.read(new PostTariff(), text + "0"), rows);
        check.due("1500 signs and a ;", Check.read(new PostTariff(), text + ";"), rows);
        check.due("1498 signs and a ;", Check.read(new PostTariff(), shortest + ";"), -1500);
        check.due("1499 signs and a ;", Check.read(new PostTariff(), shorter + ";"), -1501);
        check.due("1498 signs and another one", Check.read(new PostTariff(), shortest + "x"), -1499);
        check.due("1499 signs and another one", Check.read(new PostTariff(), shorter + "x"), -1500);
        check.due("1500 signs and another one", Check.read(new PostTariff(), text + "x"), rows);
        PostTariff tariff = new PostTariff();
        Check.sign(tariff, shorter);
        tariff.sign(127);
        tariff.sign(-1);
        Check.sign(tariff, "xy");
        check.due("what is not taken is not counted", tariff.read(), -1500);
        check.due("there is room again", Check.read(tariff, text), rows);
    }

    private void readTellsHowManyRows() {
        check.sentence("Promise 3: how many rows it has, and it is an edition");
        texts.rows("", 0);
        texts.rows("K1;S1 1", 2);
        texts.rows("K1;S1 1;R1", 3);
        texts.rows("K1;S1 1;K2;S1 1", 4);
        texts.rows(Texts.ALL_ROWS, 13);
        String full = Texts.manyRows("K", 0, 9, ";S1 1;S2 2;S3 3;Z0 0;Z1 1;X0 0;M1");
        texts.rows(full, 80);
    }

    private void readTellsThePlaceOfAFault() {
        check.sentence("Promise 3: or -1 less the place of its first fault");
        new Run(check).text("x").read(-1);
        new Run(check).text("Kx").read(-2);
        new Run(check).text("K1x").read(-3);
        new Run(check).text("K1;x").read(-4);
        new Run(check).text("K1;S1 1").read(2);
        new Run(check).text("K1;S1 1;").read(-9);
        String text = Texts.manyRows("K", 0, 9, ";S1000000 1000000;S2000000 2000000");
        new Run(check).text(text).read(30);
        new Run(check).text(text + ";").read(-2 - text.length());
        new Run(check).text(text + ";R0").read(-3 - text.length());
    }

    private void theTextIsEmptyThen() {
        check.sentence("Promise 3: the text is read, and is empty then");
        new Run(check).text("K1;S1 1").read(2).read(0);
        new Run(check).text("K1;S1 1").read(2).text("K2;S1 1").read(2).printed("K2;S1 1");
        new Run(check).text("K1;S1").read(-6).read(0);
        new Run(check).text("K1;S1").read(-6).text(" 1").read(-1).text("K1;S1 1").read(2).printed("K1;S1 1");
        new Run(check).text("K1;S1 1").read(2).text(";R1").read(-1).printed("K1;S1 1");
        new Run(check).text("K1;S1 1").compare(0, PostTariff.UNKNOWN).item(1, 1, 1, 1, 1, 0).read(2).compare(0, 0);
    }

    private void readHasNoRoom() {
        check.sentence("Promise 3: ROOM (it has none, but there are five editions; the text is empty then, too)");
        Run run = new Run(check);
        for (int e = 0; e < 5; e++) {
            run.text("K1;S1 " + e).read(2);
        }
        run.text("K1;S1 5").read(PostTariff.ROOM).text(";R1").read(-1).read(PostTariff.ROOM);
        run.text("K1;S1 5;").read(-9).text("K1").read(-3).text("x").read(-1);
        run.text("K1;S1 5").read(PostTariff.ROOM).printed("K1;S1 4").compare(4, 0).compare(5, PostTariff.UNKNOWN);
    }

    private void itemsAreNumberedFromZero() {
        check.sentence("Promise 4: an item (100 at most) ..: its number, from 0");
        Run run = new Run(check).edition("K1;S100000 5;Z0 0");
        for (int i = 0; i < 98; i++) {
            run.item(1, i + 1, 1, 1, 1, i);
        }
        run.service(98, 0, PostTariff.UNKNOWN).item(1, 1, 1, 1, 1, 98);
        run.service(99, 0, PostTariff.UNKNOWN).item(1, 1, 1, 1, 1, 99);
        run.item(1, 1, 1, 1, 1, PostTariff.ROOM).service(100, 0, PostTariff.UNKNOWN);
        run.item(9, 100000, 1, 1, 1, PostTariff.ROOM).price(99, 0, 0, 5).price(100, 0, 0, PostTariff.UNKNOWN);
        Run mixed = new Run(check).item(0, 1, 1, 1, 1, 0).item(10, 1, 1, 1, 1, PostTariff.OUTSIDE).item(0, 1, 1, 1, 1, 1);
        mixed.edition("K0;S9 9;Z0 0").item(0, 1, 1, 1, 1, 2).price(0, 0, 0, 9).price(2, 0, 0, 9);
    }

    private void anItemsNumbers() {
        check.sentence("Promise 4: OUTSIDE (kind 0 .. 9, weight and the others 1 .. 100000)");
        Run run = new Run(check);
        int number = 0;
        int[][] edges = {{-2, PostTariff.OUTSIDE}, {-1, PostTariff.OUTSIDE}, {0, 0}, {1, 0}, {8, 0}, {9, 0},
            {10, PostTariff.OUTSIDE}, {11, PostTariff.OUTSIDE}, {Integer.MIN_VALUE, PostTariff.OUTSIDE},
            {Integer.MAX_VALUE, PostTariff.OUTSIDE}};
        for (int[] edge : edges) {
            run.item(edge[0], 1, 1, 1, 1, edge[1] == 0 ? number++ : edge[1]);
        }
        int[][] measures = {{-1, PostTariff.OUTSIDE}, {0, PostTariff.OUTSIDE}, {1, 0}, {2, 0}, {99999, 0}, {100000, 0},
            {100001, PostTariff.OUTSIDE}, {100002, PostTariff.OUTSIDE}, {Integer.MIN_VALUE, PostTariff.OUTSIDE},
            {Integer.MAX_VALUE, PostTariff.OUTSIDE}};
        for (int[] edge : measures) {
            run.item(0, edge[0], 1, 1, 1, edge[1] == 0 ? number++ : edge[1]);
            run.item(0, 1, edge[0], 1, 1, edge[1] == 0 ? number++ : edge[1]);
            run.item(0, 1, 1, edge[0], 1, edge[1] == 0 ? number++ : edge[1]);
            run.item(0, 1, 1, 1, edge[0], edge[1] == 0 ? number++ : edge[1]);
        }
        check.due("items that are within", number, 4 + 16);
        run.item(9, 100000, 100000, 100000, 100000, number).item(0, 1, 1, 1, 1, number + 1);
    }

    private void anItemIsWithoutServices() {
        check.sentence("Promise 4: an item .. without services");
        Run run = new Run(check).edition("K1;S9 5;Z0 0;X0 1").item(1, 1, 1, 1, 1, 0).price(0, 0, 0, 5).parts("0 5 0,1 0 0");
        run.service(0, 0, 1).item(1, 1, 1, 1, 1, 1).price(1, 0, 0, 5).parts("0 5 0,1 0 0").service(1, 3, 1);
        run.price(0, 0, 0, 6).price(1, 0, 0, PostTariff.NONE);
    }

    private void anItemHasAService() {
        check.sentence("Promise 5: an item has a service (0 .. 9) from now on: how many it has");
        Run run = new Run(check).item(1, 1, 1, 1, 1, 0).item(1, 1, 1, 1, 1, 1);
        run.service(0, -1, PostTariff.OUTSIDE).service(0, 10, PostTariff.OUTSIDE);
        int[] services = {0, 9, 1, 8, 2, 7, 3, 6, 4, 5};
        for (int i = 0; i < services.length; i++) {
            run.service(0, services[i], i + 1).service(0, services[i], i + 1).service(0, services[0], i + 1);
        }
        run.service(1, 9, 1).service(1, 0, 2).service(1, 9, 2);
        run.service(-1, 0, PostTariff.UNKNOWN).service(2, 0, PostTariff.UNKNOWN);
        run.service(0, 11, PostTariff.OUTSIDE).service(0, 32, PostTariff.OUTSIDE).service(0, 31, PostTariff.OUTSIDE)
                .service(0, Integer.MIN_VALUE, PostTariff.OUTSIDE).service(0, Integer.MAX_VALUE, PostTariff.OUTSIDE);
        Run later = new Run(check).edition("K1;S9 5;Z0 0;X2 3").item(1, 1, 1, 1, 1, 0);
        later.price(0, 0, 0, 5).service(0, 2, 1).parts("0 5 0,1 0 0").price(0, 0, 0, 8).edition("K1;S9 7;Z0 0;X2 1")
                .price(0, 0, 0, 8).parts("0 7 0,1 0 0,2 1 2").edition("K1;S9 7;Z0 0").price(0, 0, 0, PostTariff.NONE);
    }

    private void aPriceAsItsKind() {
        check.sentence("Promise 6: THE PRICE of an item as its kind; NONE when there is none");
        Run run = new Run(check).edition("K1;S9 5;Z0 0;K2;S9 4;Z0 0;K3;S2 3;Z0 0");
        run.item(1, 3, 1, 1, 1, 0).item(2, 3, 1, 1, 1, 1).item(3, 3, 1, 1, 1, 2).item(3, 2, 1, 1, 1, 3).item(4, 3, 1, 1, 1, 4);
        run.price(0, 0, 0, 5).price(1, 0, 0, 4).price(2, 0, 0, PostTariff.NONE).price(3, 0, 0, 3)
                .price(4, 0, 0, PostTariff.NONE).price(0, 1, 0, PostTariff.NONE);
        new Run(check).edition("K1;S1 0;Z0 0").item(1, 1, 1, 1, 1, 0).price(0, 0, 0, 0).parts("0 0 0,1 0 0");
        StringBuilder dearest = new StringBuilder("K1;S1 9999999;Z0 1000;R1000");
        Run most = new Run(check).item(1, 1, 1, 1, 1, 0);
        StringBuilder parts = new StringBuilder("0 9999999 0,1 99999990 0");
        for (int s = 0; s <= 9; s++) {
            dearest.append(";X").append(s).append(" 9999999");
            parts.append(",2 9999999 ").append(s);
            most.service(0, s, s + 1);
        }
        most.edition(dearest.toString()).price(0, 0, 0, 210000000L).parts(parts + ",3 21 1000");
    }

    private void aPricesNumbers() {
        check.sentence("Promise 6: UNKNOWN, OUTSIDE (zone 0 .. 9, day 0 .. 9999999), STATE");
        Run run = new Run(check).item(1, 1, 1, 1, 1, 0).price(0, 0, 0, PostTariff.STATE)
                .price(0, 9, 9999999, PostTariff.STATE).price(0, 10, 0, PostTariff.OUTSIDE)
                .price(0, 0, 10000000, PostTariff.OUTSIDE).price(1, 0, 0, PostTariff.UNKNOWN);
        run.edition("K1;S1 5;" + Texts.manyRows("Z", 0, 9, " 0"));
        run.price(-1, 0, 0, PostTariff.UNKNOWN).price(0, 0, 0, 5).price(1, 0, 0, PostTariff.UNKNOWN);
        run.price(0, -1, 0, PostTariff.OUTSIDE).price(0, 0, 0, 5).price(0, 1, 0, 5);
        run.price(0, 8, 0, 5).price(0, 9, 0, 5).price(0, 10, 0, PostTariff.OUTSIDE);
        run.price(0, 0, -1, PostTariff.OUTSIDE).price(0, 0, 0, 5).price(0, 0, 1, 5);
        run.price(0, 0, 9999998, 5).price(0, 0, 9999999, 5).price(0, 0, 10000000, PostTariff.OUTSIDE);
        run.price(0, 0, 1L << 32, PostTariff.OUTSIDE).price(0, 0, (1L << 32) + 1, PostTariff.OUTSIDE)
                .price(0, 0, Long.MIN_VALUE, PostTariff.OUTSIDE).price(0, 0, Long.MAX_VALUE, PostTariff.OUTSIDE)
                .price(0, 256, 0, PostTariff.OUTSIDE).price(0, Integer.MIN_VALUE, 0, PostTariff.OUTSIDE);
        run.item(1, 1, 1, 1, 1, 1).price(1, 0, 0, 5).price(2, 0, 0, PostTariff.UNKNOWN);
    }

    private void explainTellsItThen() {
        check.sentence("Promise 6: explain tells it then (nothing for NONE)");
        Run run = new Run(check).edition("K1;S9 50;Z0 0;Z1 10;F5 9;R7").item(1, 1, 1, 1, 1, 0).parts("");
        run.price(0, 0, 5, 56).parts("0 50 0,1 0 0,3 6 7").price(0, 1, 5, 56).parts("0 50 0,1 5 1,3 1 7");
        run.price(0, 1, 4, PostTariff.NONE).parts("").price(0, 1, 9, 56).parts("0 50 0,1 5 1,3 1 7");
        run.price(0, 2, 9, PostTariff.NONE).parts("").price(0, 0, 9, 56).parts("0 50 0,1 0 0,3 6 7");
        run.price(0, 10, 9, PostTariff.OUTSIDE).price(1, 0, 9, PostTariff.UNKNOWN).parts("0 50 0,1 0 0,3 6 7");
        run.edition("").parts("0 50 0,1 0 0,3 6 7").price(0, 0, 9, PostTariff.NONE).parts("");
        Run bare = new Run(check).item(1, 1, 1, 1, 1, 0).price(0, 0, 0, PostTariff.STATE).parts("");
        bare.edition("K1;S1 1;Z0 0").parts("").price(0, 0, 0, 1).parts("0 1 0,1 0 0");
    }

    /** For each reason for which there is no price, behind a price that explain has told. */
    private void explainTellsNothingForNone() {
        check.sentence("Promise 6: explain tells it then (nothing for NONE): whatever the reason");
        Run run = new Run(check).edition("K1;S9 50;Z0 0;X0 1;X1 1;E0 1;D5 5 5;F5 9;M10;R7");
        run.item(1, 9, 5, 4, 4, 0).item(2, 1, 1, 1, 1, 1).item(1, 1, 6, 1, 1, 2).item(1, 1, 1, 6, 1, 3).item(1, 1, 1, 1, 6, 4)
                .item(1, 1, 1, 1, 1, 5).item(1, 1, 1, 1, 1, 6).item(1, 10, 1, 1, 1, 7).item(1, 1, 5, 5, 4, 8);
        run.service(5, 2, 1).service(6, 0, 1).service(6, 1, 2);
        String parts = "0 50 0,1 0 0,3 6 7";
        for (int i = 1; i <= 8; i++) {
            run.price(0, 0, 5, 56).parts(parts).price(i, 0, 5, PostTariff.NONE).parts("");
        }
        run.price(0, 0, 9, 56).parts(parts).price(0, 0, 4, PostTariff.NONE).parts("");
        run.price(0, 0, 9, 56).parts(parts).price(0, 0, 10, PostTariff.NONE).parts("");
        run.price(0, 0, 9, 56).parts(parts).price(0, 1, 9, PostTariff.NONE).parts("");
        run.price(0, 0, 9, 56).parts(parts).service(0, 9, 1).parts(parts).price(0, 0, 9, PostTariff.NONE).parts("");
    }

    private void theKindAsWhichItIsLeast() {
        check.sentence("Promise 7: the kind, of all, as which the item's price is least, of several the least; NONE ..");
        Run run = new Run(check).item(9, 1, 1, 1, 1, 0).read(0).least(0, 0, 0, PostTariff.NONE);
        run.edition("K4;S1 5;Z0 0;K6;S1 6;Z0 0").least(0, 0, 0, 4).least(0, 1, 0, PostTariff.NONE);
        run.edition("K4;S1 5;Z0 0;K6;S1 5;Z0 0").least(0, 0, 0, 4);
        run.edition("K6;S1 5;Z0 0;K4;S1 5;Z0 0").least(0, 0, 0, 4);
        run.edition("K4;S1 5;Z0 0;K6;S1 4;Z0 0").least(0, 0, 0, 6);
        Run own = new Run(check).edition("K2;S1 6;Z0 0;K4;S1 5;Z0 0;K6;S1 5;Z0 0;K8;S1 7;Z0 0");
        for (int k = 0; k <= 9; k++) {
            own.item(k, 1, 1, 1, 1, k).least(k, 0, 0, 4);
        }
        StringBuilder same = new StringBuilder("K0;S2 7;Z1 0");
        for (int k = 1; k <= 9; k++) {
            same.append(";K").append(k).append(";S2 7;Z0 0").append(k == 5 ? ";F1 1" : "");
        }
        Run all = new Run(check).edition(same.toString()).item(5, 1, 1, 1, 1, 0).item(0, 2, 1, 1, 1, 1).item(0, 3, 1, 1, 1, 2);
        all.least(0, 0, 0, 1).least(1, 0, 0, 1).least(0, 1, 0, 0).least(2, 0, 0, PostTariff.NONE)
                .least(0, 2, 0, PostTariff.NONE);
        Run ends = new Run(check).edition("K0;S1 1;Z0 0;Z1 200;K9;S1 2;Z0 0;Z1 0").item(3, 1, 1, 1, 1, 0);
        ends.least(0, 0, 0, 0).least(0, 1, 0, 9);
        Run rounded = new Run(check).edition("K0;S1 8;Z0 0;R10;K1;S1 9;Z0 0;K2;S1 9;Z0 0").item(0, 1, 1, 1, 1, 0);
        rounded.least(0, 0, 0, 1).price(0, 0, 0, 10);
        Run nothing = new Run(check).edition("K0;S1 1;Z0 0;K1;S1 0;Z0 0;K2;S1 0;Z0 0").item(0, 1, 1, 1, 1, 0);
        nothing.least(0, 0, 0, 1).service(0, 3, 1).least(0, 0, 0, PostTariff.NONE);
    }

    private void leastsNumbers() {
        check.sentence("Promise 7: UNKNOWN, OUTSIDE, STATE");
        Run run = new Run(check).item(1, 1, 1, 1, 1, 0).least(0, 0, 0, PostTariff.STATE)
                .least(0, 9, 9999999, PostTariff.STATE).least(0, 10, 0, PostTariff.OUTSIDE)
                .least(0, 0, 10000000, PostTariff.OUTSIDE).least(1, 0, 0, PostTariff.UNKNOWN);
        run.edition("K1;S1 5;" + Texts.manyRows("Z", 0, 9, " 0"));
        run.least(-1, 0, 0, PostTariff.UNKNOWN).least(0, 0, 0, 1).least(1, 0, 0, PostTariff.UNKNOWN);
        run.least(0, -1, 0, PostTariff.OUTSIDE).least(0, 1, 0, 1);
        run.least(0, 8, 0, 1).least(0, 9, 0, 1).least(0, 10, 0, PostTariff.OUTSIDE);
        run.least(0, 0, -1, PostTariff.OUTSIDE).least(0, 0, 1, 1);
        run.least(0, 0, 9999998, 1).least(0, 0, 9999999, 1).least(0, 0, 10000000, PostTariff.OUTSIDE);
        run.least(0, 0, 1L << 32, PostTariff.OUTSIDE).least(0, 0, Long.MIN_VALUE, PostTariff.OUTSIDE)
                .least(0, 0, Long.MAX_VALUE, PostTariff.OUTSIDE).least(0, Integer.MAX_VALUE, 0, PostTariff.OUTSIDE);
    }

    private void whatExplainTellsStays() {
        check.sentence("Promise 7: (What explain tells stays.)");
        Run run = new Run(check).edition("K1;S9 5;Z0 0;K2;S9 4;Z0 0;Z1 0;R3").item(1, 1, 1, 1, 1, 0);
        run.least(0, 0, 0, 1).parts("").price(0, 0, 0, 5).parts("0 5 0,1 0 0");
        run.least(0, 1, 0, 2).parts("0 5 0,1 0 0").least(0, 2, 0, PostTariff.NONE).parts("0 5 0,1 0 0");
        run.least(0, 10, 0, PostTariff.OUTSIDE).least(1, 0, 0, PostTariff.UNKNOWN).parts("0 5 0,1 0 0");
        run.price(0, 1, 0, PostTariff.NONE).parts("").least(0, 0, 0, 1).parts("");
    }

    /** What each other call leaves as it is. */
    private void thePriceToldLatest() {
        check.sentence("Promise 8: of part i (0 the first) of the price told latest");
        String parts = "0 30 1,1 15 7,2 3 9,3 2 10";
        Run run = new Run(check).edition("K1;S5 10;S9 30;Z0 0;Z7 50;X9 3;X8 1;R10").item(1, 6, 1, 1, 1, 0).service(0, 9, 1);
        run.price(0, 7, 0, 50).parts(parts).explain(0, 3, PostTariff.NONE).explain(9, 0, PostTariff.NONE).parts(parts);
        run.item(1, 1, 1, 1, 1, 1).parts(parts).service(0, 8, 2).parts(parts).service(1, 8, 1).parts(parts);
        run.least(1, 0, 0, 1).parts(parts).dimensional(5, 2, 3).dimensionalThrows(5, 0).parts(parts);
        run.compare(0, 0).parts(parts).print(39).parts(parts).at(0, 'K').parts(parts);
        run.sign('K').parts(parts).read(-2).parts(parts).edition("K1;S9 8;Z0 0;X8 1").parts(parts).read(0).parts(parts);
        run.edition("K1;S9 8;Z0 0;X8 1").price(1, 0, 0, 9).parts("0 8 0,1 0 0,2 1 8");
    }

    private void theSortOfAPart() {
        check.sentence("Promise 8: 0 the step, 1 the zone, 2 a service (by number, each a part), 3 rounding (if the kind has R)");
        Run run = new Run(check).edition("K1;S5 10;S9 30;Z0 0;Z7 50;X0 1;X5 2;X9 3;R100;K2;S5 10;S9 30;Z7 50;X0 1;X5 2;X9 3");
        run.item(1, 6, 1, 1, 1, 0).item(2, 6, 1, 1, 1, 1).item(1, 5, 1, 1, 1, 2);
        run.price(0, 7, 0, 100).parts("0 30 1,1 15 7,3 55 100").price(1, 7, 0, 45).parts("0 30 1,1 15 7");
        run.price(2, 0, 0, 100).parts("0 10 0,1 0 0,3 90 100");
        run.service(0, 9, 1).service(0, 0, 2).service(1, 5, 1).service(1, 0, 2).service(1, 9, 3);
        run.price(0, 7, 0, 100).parts("0 30 1,1 15 7,2 1 0,2 3 9,3 51 100");
        run.price(1, 7, 0, 51).parts("0 30 1,1 15 7,2 1 0,2 2 5,2 3 9");
        run.explain(0, 0, 0).explain(0, 1, 30).explain(0, 2, 1).explain(1, 0, 1).explain(1, 1, 15).explain(1, 2, 7)
                .explain(4, 0, 2).explain(4, 1, 3).explain(4, 2, 9);
        Run whole = new Run(check).edition("K1;S1 100;Z0 0;R100").item(1, 1, 1, 1, 1, 0);
        whole.price(0, 0, 0, 100).parts("0 100 0,1 0 0,3 0 100");
        whole.edition("K1;S1 100;Z0 0;R1").price(0, 0, 0, 100).parts("0 100 0,1 0 0,3 0 1");
        whole.edition("K1;S1 0;Z0 0").price(0, 0, 0, 0).parts("0 0 0,1 0 0");
    }

    private void noSuchPart() {
        check.sentence("Promise 8: NONE when there is no such part, or what is none of these");
        Run run = new Run(check).item(1, 1, 1, 1, 1, 0).item(2, 1, 1, 1, 1, 1);
        int[] whats = {-1, 0, 1, 2, 3};
        for (int what : whats) {
            run.explain(-1, what, PostTariff.NONE).explain(0, what, PostTariff.NONE).explain(1, what, PostTariff.NONE);
        }
        StringBuilder text = new StringBuilder("K2;S1 1;Z0 0;K1;S1 1;Z0 0;R1");
        for (int s = 0; s <= 9; s++) {
            text.append(";X").append(s).append(" 1");
            run.service(0, s, s + 1);
        }
        run.edition(text.toString());
        noPartBut(run.price(0, 0, 0, 11), 13);
        noPartBut(run.price(1, 0, 0, 1), 2);
        noPartBut(run.price(1, 1, 0, PostTariff.NONE), 0);
    }

    private void noPartBut(Run run, int parts) {
        int[] others = {-1, parts, parts + 1, 13, 14, Integer.MIN_VALUE, Integer.MAX_VALUE};
        for (int i : others) {
            for (int what = -1; what <= 3; what++) {
                run.explain(i, what, PostTariff.NONE);
            }
        }
        if (parts > 0) {
            int[] wrong = {-1, 3, 4, Integer.MIN_VALUE, Integer.MAX_VALUE};
            for (int what : wrong) {
                run.explain(0, what, PostTariff.NONE).explain(parts - 1, what, PostTariff.NONE);
            }
            run.explain(0, 0, 0).explain(0, 1, 1).explain(0, 2, 0);
            run.explain(parts - 1, 0, parts == 13 ? 3 : 1).explain(parts - 1, 1, 0).explain(parts - 1, 2, parts == 13 ? 1 : 0);
        }
    }

    private void dividedAndRoundedUp() {
        check.sentence("Promise 9: a volume divided by a divisor, rounded up");
        Run run = new Run(check);
        long[] divisors = {1, 2, 3, 10, 999, 1000, 5000, 1L << 31, 1L << 32, (1L << 32) + 1, MOST / 3, MOST - 1, MOST};
        for (long divisor : divisors) {
            run.dimensional(0, divisor, 0).dimensional(1, divisor, 1);
            run.dimensional(divisor - 1, divisor, divisor == 1 ? 0 : 1).dimensional(divisor, divisor, 1);
            if (divisor < MOST) {
                run.dimensional(divisor + 1, divisor, 2);
            }
            if (divisor <= MOST / 3) {
                run.dimensional(3 * divisor - 1, divisor, divisor == 1 ? 2 : 3).dimensional(3 * divisor, divisor, 3)
                        .dimensional(3 * divisor + 1, divisor, 4);
            }
        }
        run.dimensional(MOST, 1, MOST).dimensional(MOST - 1, 1, MOST - 1).dimensional(MOST, 2, MOST / 2)
                .dimensional(MOST - 1, 2, MOST / 2).dimensional(MOST, 3, 333333333333334L)
                .dimensional(MOST, 7, 142857142857143L);
    }

    private void dimensionalsNumbers() {
        check.sentence("Promise 9: OUTSIDE when one is below 0, or above 10^15 (looked at first)");
        Run run = new Run(check);
        long[] others = {-1, -2, MOST + 1, MOST + 2, Long.MIN_VALUE, Long.MAX_VALUE, -MOST, -(1L << 32)};
        for (long other : others) {
            run.dimensional(other, 1, PostTariff.OUTSIDE).dimensional(other, 0, PostTariff.OUTSIDE)
                    .dimensional(0, other, PostTariff.OUTSIDE).dimensional(1, other, PostTariff.OUTSIDE)
                    .dimensional(MOST, other, PostTariff.OUTSIDE).dimensional(other, other, PostTariff.OUTSIDE)
                    .dimensional(other, MOST, PostTariff.OUTSIDE);
        }
        run.dimensional(0, 1, 0).dimensional(1, 1, 1).dimensional(MOST - 1, MOST - 1, 1).dimensional(MOST, MOST, 1);
    }

    private void theDivisorIsZero() {
        check.sentence("Promise 9: ArithmeticException when the divisor is 0");
        Run run = new Run(check).dimensionalThrows(0, 0).dimensionalThrows(1, 0).dimensionalThrows(MOST, 0)
                .dimensionalThrows(MOST - 1, 0);
        run.dimensional(0, 1, 0).dimensional(-1, 0, PostTariff.OUTSIDE).dimensional(MOST + 1, 0, PostTariff.OUTSIDE);
        run.dimensional(1, -1, PostTariff.OUTSIDE).dimensionalThrows(5, 0).dimensional(5, 1, 5);
    }

    private void kindsPrintedOtherwise() {
        check.sentence("Promise 10: how many kinds 0 .. 9 are printed otherwise in an edition than in the latest one");
        String base = "K1;S5 6;S7 8;Z1 2;X1 1;X2 2;X3 3;E1 2;D1 2 3;M4;F5 6;R7";
        new Run(check).edition(base).edition(base).compare(0, 0).compare(1, 0).compare(2, PostTariff.UNKNOWN)
                .compare(-1, PostTariff.UNKNOWN);
        new Run(check).edition(base).edition("K01;R7;F5 06;M4;D1 2 3;X3 3;X2 2;X1 1;E2 1;Z1 2;S5 6;S7 008").compare(0, 0);
        String[][] changes = {{"S5", "S4"}, {"S5 6", "S5 5"}, {"S7", "S6"}, {" 8", " 9"}, {";S7 8", ""}, {"S7 8", "S7 8;S8 8"},
            {"Z1", "Z0"}, {"Z1 2", "Z1 1"}, {";Z1 2", ""}, {"Z1 2", "Z1 2;Z0 0"}, {"X1 1", "X1 0"}, {"X3 3", "X4 3"},
            {";X3 3", ""}, {"X3 3", "X3 3;X9 0"}, {"E1 2", "E1 3"}, {"E1 2", "E2 3"}, {";E1 2", ""}, {"E1 2", "E1 2;E1 3"},
            {"D1", "D2"}, {"D1 2", "D1 3"}, {"2 3;M", "2 4;M"}, {";D1 2 3", ""}, {"M4", "M5"}, {";M4", ""}, {"F5", "F4"},
            {"F5 6", "F5 7"}, {";F5 6", ""}, {"R7", "R8"}, {";R7", ""}};
        for (String[] change : changes) {
            String other = base.replace(change[0], change[1]);
            check.due(other + " is another text", other.equals(base) ? 1 : 0, 0);
            new Run(check).edition(base).edition(other).compare(0, 1).compare(1, 0);
            new Run(check).edition(other).edition(base).compare(0, 1).compare(1, 0);
        }
        String ten = Texts.manyRows("K", 0, 9, ";S1 1");
        for (int k = 0; k <= 9; k++) {
            new Run(check).edition(ten).edition(ten.replace("K" + k + ";S1", "K" + k + ";S2")).compare(0, 1);
        }
        new Run(check).edition(ten).edition(ten.replace("S1 1", "S1 2")).compare(0, 10).compare(1, 0);
        new Run(check).edition(ten).edition(ten.replace("S1 1", "S1 2").replace("K4;S1 2", "K4;S1 1")).compare(0, 9);
        Run all = new Run(check);
        for (int e = 0; e < 5; e++) {
            all.edition(ten.substring(0, e * 8 + 7));
        }
        all.compare(0, 4).compare(1, 3).compare(2, 2).compare(3, 1).compare(4, 0).compare(5, PostTariff.UNKNOWN);
    }

    private void oneThatOnlyOneOfThemHas() {
        check.sentence("Promise 10: (one that only one of them has, too)");
        String ten = Texts.manyRows("K", 0, 9, ";S1 1");
        for (int k = 0; k <= 9; k++) {
            String one = "K" + k + ";S1 1";
            new Run(check).edition("").edition(one).compare(0, 1).compare(1, 0);
            new Run(check).edition(one).edition("").compare(0, 1).compare(1, 0);
            new Run(check).edition(ten).edition(one).compare(0, 9).compare(1, 0);
            new Run(check).edition(one).edition("K" + (k + 1) % 10 + ";S1 1").compare(0, 2);
        }
        new Run(check).edition("").edition(ten).compare(0, 10);
        new Run(check).edition(ten).edition("").compare(0, 10).compare(1, 0);
        new Run(check).edition("").edition("").compare(0, 0).compare(1, 0);
    }

    private void howManyCharacters() {
        check.sentence("Promise 11: the latest edition is PRINTED: how many characters; at tells them. STATE");
        new Run(check).print(PostTariff.STATE).at(0, PostTariff.NONE).read(0).print(0).at(0, PostTariff.NONE);
        new Run(check).fault("K1", 2).print(PostTariff.STATE);
        Run run = new Run(check).edition("K1;S1 1").printed("K1;S1 1").edition("K2;S22 22;R2").printed("K2;S22 22;R2");
        run.edition("K3;S3 3").print(7).print(7).signs("K3;S3 3").edition("").print(0).signs("");
        String longest = Texts.manyRows("K", 0, 9, ";S9999999 1000000");
        check.due("signs", longest.length(), 199);
        new Run(check).edition(longest).printed(longest);
    }

    private void characterOfWhatWasPrinted() {
        check.sentence("Promise 12: character i of what was printed latest; NONE when there is none such");
        Run run = new Run(check).at(-1, PostTariff.NONE).at(0, PostTariff.NONE).at(1, PostTariff.NONE);
        run.print(PostTariff.STATE).at(0, PostTariff.NONE).edition("K1;S23 45").at(0, PostTariff.NONE).print(9);
        run.at(-1, PostTariff.NONE).at(0, 'K').at(1, '1').at(2, ';').at(3, 'S').at(6, ' ').at(7, '4').at(8, '5')
                .at(9, PostTariff.NONE).at(10, PostTariff.NONE).at(1499, PostTariff.NONE).at(1500, PostTariff.NONE)
                .at(Integer.MIN_VALUE, PostTariff.NONE).at(Integer.MAX_VALUE, PostTariff.NONE);
        run.edition("K7;S1 1").signs("K1;S23 45").fault("K9", 2).signs("K1;S23 45").print(7).signs("K7;S1 1")
                .at(7, PostTariff.NONE).at(8, PostTariff.NONE);
        run.edition("").at(6, '1').print(0).at(0, PostTariff.NONE).at(6, PostTariff.NONE).at(-1, PostTariff.NONE);
    }

    /** What each other call leaves as it is. */
    private void whatWasPrintedLatest() {
        check.sentence("Promise 12: of what was printed latest");
        String text = "K1;S9 5;Z0 1";
        Run run = new Run(check).edition(text).item(1, 1, 1, 1, 1, 0).printed(text);
        run.item(1, 1, 1, 1, 1, 1).signs(text).service(0, 8, 1).signs(text).price(1, 0, 0, 5).parts("0 5 0,1 0 0").signs(text);
        run.least(1, 0, 0, 1).signs(text).dimensional(5, 2, 3).dimensionalThrows(5, 0).signs(text).compare(0, 0).signs(text);
        run.sign('K').signs(text).read(-2).signs(text).edition("K2;S2 2").signs(text).printed("K2;S2 2");
        run.read(0).signs("K2;S2 2").print(0).signs("");
    }

    /** The 513th call's answer is free, so that the last ones asked for are the 511th and the 512th. */
    private void theLastCalls() {
        check.sentence("An object is used for at most 512 calls after it has been made");
        Run items = new Run(check);
        for (int i = 0; i < 512; i++) {
            items.item(1, 1, 1, 1, 1, i < 100 ? i : PostTariff.ROOM);
        }
        check.due("calls that are left", items.left(), 0);
        Run run = new Run(check).edition("K1;S1 5;Z0 0;X0 1").item(1, 1, 1, 1, 1, 0);
        while (run.left() > 8) {
            run.price(0, 0, run.left(), 5);
        }
        run.service(0, 0, 1).price(0, 0, 0, 6).explain(2, 1, 1).print(17).at(16, '1').least(0, 0, 0, 1)
                .item(1, 1, 1, 1, 1, 1).compare(0, 0);
        check.due("calls that are left", run.left(), 0);
        StringBuilder text = new StringBuilder("K1");
        for (int i = 0; i < 29; i++) {
            text.append(String.format(";%s%07d 0000001", "SZX".substring(i / 10, i / 10 + 1), i / 10 > 0 ? i % 10 : i + 1));
        }
        Run longest = new Run(check).text(text + ";F000000 000001").read(31).compare(0, 0);
        check.due("calls that are left", longest.left(), 0);
        Run editions = new Run(check);
        for (int i = 0; i < 512; i++) {
            editions.read(i < 5 ? 0 : PostTariff.ROOM);
        }
        check.due("calls that are left", editions.left(), 0);
    }
}
