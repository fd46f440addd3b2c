import java.util.ArrayList;
import java.util.List;

/**
 * The term REFUSALS: which of several comes first, and that a call that is refused, or throws, changes
 * nothing. For that each state is made twice, the call is made in one of the two, and both are asked
 * for all that the face tells.
 */
public final class RefusalEdgesTest {
    private static final long DAY = 9999999;
    private static final long MOST = 1000000000000000L;

    /** A state: the calls that make it. */
    private interface State {
        void make(Run run);
    }

    /** A call that is refused or throws, with its answer compared. */
    private interface Refused {
        void call(Run run);
    }

    private final Check check = new Check("RefusalEdgesTest");

    public static void main(String[] args) {
        RefusalEdgesTest test = new RefusalEdgesTest();
        test.thereIsNoSuchItem();
        test.thereIsNoSuchEdition();
        test.aNumberIsNotAsSaid();
        test.thereIsNoEdition();
        test.thereIsNoRoom();
        test.ofSeveralTheFirst();
        test.nothingChangesInANewObject();
        test.nothingChangesWithoutAnEdition();
        test.nothingChangesBehindAPrice();
        test.nothingChangesWhenAllIsFull();
        test.aFaultyTextChangesNothingButTheText();
        test.aTextWithoutRoomChangesNothingButTheText();
        test.whatOnlyTellsChangesNothing();
        test.check.end();
    }

    private void thereIsNoSuchItem() {
        check.sentence("UNKNOWN (there is no such item ..)");
        Run run = new Run(check).edition("K1;S1 5;Z0 0;X0 1");
        for (int items = 0; items <= 2; items++) {
            int[] others = {-1, items, items + 1, 100, Integer.MIN_VALUE, Integer.MAX_VALUE};
            for (int other : others) {
                run.service(other, 0, PostTariff.UNKNOWN).price(other, 0, 0, PostTariff.UNKNOWN)
                        .least(other, 0, 0, PostTariff.UNKNOWN);
            }
            for (int i = 0; i < items; i++) {
                run.price(i, 0, 0, 5).least(i, 0, 0, 1);
            }
            run.item(1, 1, 1, 1, 1, items);
        }
        run.service(2, 0, 1).service(3, 0, PostTariff.UNKNOWN).price(1, 0, 0, 5).price(2, 0, 0, 6);
    }

    private void thereIsNoSuchEdition() {
        check.sentence("UNKNOWN (there is no such .. edition)");
        Run run = new Run(check);
        for (int editions = 0; editions <= 5; editions++) {
            int[] others = {-1, editions, editions + 1, 5, 6, Integer.MIN_VALUE, Integer.MAX_VALUE};
            for (int other : others) {
                run.compare(other, PostTariff.UNKNOWN);
            }
            for (int e = 0; e < editions; e++) {
                run.compare(e, 0);
            }
            if (editions < 5) {
                run.edition("K1;S1 1");
            }
        }
    }

    private void aNumberIsNotAsSaid() {
        check.sentence("OUTSIDE (a number is not as said)");
        Run run = new Run(check).edition("K0;S1 5;Z0 0;Z9 0;X0 1;X9 2").item(0, 1, 1, 1, 1, 0);
        int[] names = {-1, 10, 11, 100, 256, Integer.MIN_VALUE, Integer.MAX_VALUE};
        for (int name : names) {
            run.item(name, 1, 1, 1, 1, PostTariff.OUTSIDE).service(0, name, PostTariff.OUTSIDE)
                    .price(0, name, 0, PostTariff.OUTSIDE).least(0, name, 0, PostTariff.OUTSIDE);
        }
        int[] measures = {0, -1, 100001, 100002, Integer.MIN_VALUE, Integer.MAX_VALUE};
        for (int measure : measures) {
            run.item(0, measure, 1, 1, 1, PostTariff.OUTSIDE).item(0, 1, measure, 1, 1, PostTariff.OUTSIDE)
                    .item(0, 1, 1, measure, 1, PostTariff.OUTSIDE).item(0, 1, 1, 1, measure, PostTariff.OUTSIDE);
        }
        long[] days = {-1, DAY + 1, DAY + 2, 1L << 32, -(1L << 32), 1L << 63, Long.MAX_VALUE};
        for (long day : days) {
            run.price(0, 0, day, PostTariff.OUTSIDE).least(0, 0, day, PostTariff.OUTSIDE);
        }
        run.price(0, 0, 0, 5).price(0, 9, DAY, 5).least(0, 0, 0, 0).least(0, 9, DAY, 0)
                .item(9, 100000, 100000, 100000, 100000, 1).service(0, 0, 1).service(0, 9, 2).price(0, 0, 0, 8);
    }

    private void thereIsNoEdition() {
        check.sentence("STATE (there is no edition)");
        Run run = new Run(check).item(1, 1, 1, 1, 1, 0);
        run.price(0, 0, 0, PostTariff.STATE).least(0, 0, 0, PostTariff.STATE).print(PostTariff.STATE);
        run.fault("K1;", 3).price(0, 0, 0, PostTariff.STATE).least(0, 0, 0, PostTariff.STATE).print(PostTariff.STATE);
        run.read(0).price(0, 0, 0, PostTariff.NONE).least(0, 0, 0, PostTariff.NONE).print(0);
    }

    private void thereIsNoRoom() {
        check.sentence("ROOM");
        Run run = new Run(check);
        for (int i = 0; i < 100; i++) {
            run.item(1, 1, 1, 1, 1, i);
        }
        run.item(1, 1, 1, 1, 1, PostTariff.ROOM).item(1, 1, 1, 1, 1, PostTariff.ROOM);
        for (int e = 0; e < 5; e++) {
            run.edition("K1;S1 1");
        }
        run.text("K1;S1 1").read(PostTariff.ROOM).read(PostTariff.ROOM);
    }

    private void ofSeveralTheFirst() {
        check.sentence("REFUSALS are answers, of several the first one here");
        Run bare = new Run(check);
        bare.price(0, 10, -1, PostTariff.UNKNOWN).price(0, 0, 0, PostTariff.UNKNOWN).price(-1, 0, 0, PostTariff.UNKNOWN);
        bare.least(0, 10, -1, PostTariff.UNKNOWN).least(0, 0, 0, PostTariff.UNKNOWN).least(-1, 0, 0, PostTariff.UNKNOWN);
        bare.service(0, 10, PostTariff.UNKNOWN).service(0, -1, PostTariff.UNKNOWN).service(-1, 10, PostTariff.UNKNOWN);
        bare.item(1, 1, 1, 1, 1, 0);
        bare.price(0, 10, 0, PostTariff.OUTSIDE).price(0, 0, -1, PostTariff.OUTSIDE).price(1, 10, -1, PostTariff.UNKNOWN);
        bare.least(0, 10, 0, PostTariff.OUTSIDE).least(0, 0, -1, PostTariff.OUTSIDE).least(1, 10, -1, PostTariff.UNKNOWN);
        bare.price(0, 9, DAY, PostTariff.STATE).least(0, 9, DAY, PostTariff.STATE);
        bare.service(1, 10, PostTariff.UNKNOWN).service(0, 10, PostTariff.OUTSIDE);
        Run full = new Run(check);
        for (int i = 0; i < 100; i++) {
            full.item(1, 1, 1, 1, 1, i);
        }
        full.item(10, 1, 1, 1, 1, PostTariff.OUTSIDE).item(1, 0, 1, 1, 1, PostTariff.OUTSIDE)
                .item(1, 1, 100001, 1, 1, PostTariff.OUTSIDE).item(1, 1, 1, 0, 1, PostTariff.OUTSIDE)
                .item(1, 1, 1, 1, 0, PostTariff.OUTSIDE).item(1, 1, 1, 1, 1, PostTariff.ROOM);
        full.service(100, 10, PostTariff.UNKNOWN).price(100, 10, -1, PostTariff.UNKNOWN).price(99, 10, 0, PostTariff.OUTSIDE);
    }

    /** All that the face tells of an object: first what asking does not change, then the rest. */
    private static String told(Run run, int items) {
        StringBuilder told = new StringBuilder(run.partsTold()).append('|').append(run.signsTold());
        for (int e = 0; e <= 5; e++) {
            int edition = e;
            told.append(',').append(run.answer("compare", x -> x.compare(edition)));
        }
        for (int i = 0; i <= items; i++) {
            int item = i;
            told.append("|least ").append(run.answer("least", x -> x.least(item, 0, 1)));
            told.append(" price ").append(run.answer("price", x -> x.price(item, 0, 1)));
            told.append(" parts ").append(run.partsTold());
            told.append(" services ").append(run.answer("service", x -> x.service(item, 7)));
        }
        told.append("|print ").append(run.answer("print", x -> x.print())).append(run.signsTold());
        told.append("|item ").append(run.answer("item", x -> x.item(1, 1, 1, 1, 1)));
        told.append("|read ").append(run.answer("read", x -> x.read()));
        told.append("|print ").append(run.answer("print", x -> x.print())).append(run.signsTold());
        for (int e = 0; e <= 5; e++) {
            int edition = e;
            told.append(',').append(run.answer("compare", x -> x.compare(edition)));
        }
        return told.toString();
    }

    /** How many items there are, of which all are asked for, and one more. */
    private void changesNothing(State state, int items, List<Refused> refused) {
        for (Refused one : refused) {
            Run plain = new Run(check);
            state.make(plain);
            Run other = new Run(check);
            state.make(other);
            one.call(other);
            check.due("what is told behind a refused call", told(other, items), told(plain, items));
        }
        Run plain = new Run(check);
        state.make(plain);
        Run all = new Run(check);
        state.make(all);
        for (Refused one : refused) {
            if (all.left() > 300) {
                one.call(all);
            }
        }
        check.due("what is told behind refused calls", told(all, items), told(plain, items));
    }

    /** What is refused in every state with so many items and editions. */
    private List<Refused> refusedAlways(int items, int editions) {
        List<Refused> calls = new ArrayList<>();
        int[] others = {-1, items, Integer.MIN_VALUE, Integer.MAX_VALUE};
        for (int other : others) {
            calls.add(run -> run.service(other, 0, PostTariff.UNKNOWN));
            calls.add(run -> run.price(other, 0, 1, PostTariff.UNKNOWN));
            calls.add(run -> run.least(other, 0, 1, PostTariff.UNKNOWN));
        }
        int[] noEditions = {-1, editions, 5, Integer.MIN_VALUE, Integer.MAX_VALUE};
        for (int edition : noEditions) {
            calls.add(run -> run.compare(edition, PostTariff.UNKNOWN));
        }
        int[] noKinds = {-1, 10};
        for (int kind : noKinds) {
            calls.add(run -> run.item(kind, 1, 1, 1, 1, PostTariff.OUTSIDE));
        }
        int[] noMeasures = {0, 100001};
        for (int measure : noMeasures) {
            calls.add(run -> run.item(1, measure, 1, 1, 1, PostTariff.OUTSIDE));
            calls.add(run -> run.item(1, 1, measure, 1, 1, PostTariff.OUTSIDE));
            calls.add(run -> run.item(1, 1, 1, measure, 1, PostTariff.OUTSIDE));
            calls.add(run -> run.item(1, 1, 1, 1, measure, PostTariff.OUTSIDE));
        }
        int[] noSigns = {-1, 127, 128, Integer.MIN_VALUE, Integer.MAX_VALUE};
        for (int c : noSigns) {
            calls.add(run -> run.sign(c));
        }
        calls.add(run -> run.dimensional(-1, 1, PostTariff.OUTSIDE));
        calls.add(run -> run.dimensional(1, -1, PostTariff.OUTSIDE));
        calls.add(run -> run.dimensional(MOST + 1, 0, PostTariff.OUTSIDE));
        calls.add(run -> run.dimensional(1, MOST + 1, PostTariff.OUTSIDE));
        calls.add(run -> run.dimensionalThrows(0, 0));
        calls.add(run -> run.dimensionalThrows(MOST, 0));
        calls.add(run -> run.explain(-1, 0, PostTariff.NONE));
        calls.add(run -> run.explain(13, 0, PostTariff.NONE));
        calls.add(run -> run.explain(0, -1, PostTariff.NONE));
        calls.add(run -> run.explain(0, 3, PostTariff.NONE));
        calls.add(run -> run.at(-1, PostTariff.NONE));
        calls.add(run -> run.at(1500, PostTariff.NONE));
        return calls;
    }

    /** What is refused of an item that is there. */
    private void addOutside(List<Refused> calls, int item) {
        int[] names = {-1, 10};
        for (int name : names) {
            calls.add(run -> run.service(item, name, PostTariff.OUTSIDE));
            calls.add(run -> run.price(item, name, 1, PostTariff.OUTSIDE));
            calls.add(run -> run.least(item, name, 1, PostTariff.OUTSIDE));
        }
        long[] days = {-1, DAY + 1};
        for (long day : days) {
            calls.add(run -> run.price(item, 0, day, PostTariff.OUTSIDE));
            calls.add(run -> run.least(item, 0, day, PostTariff.OUTSIDE));
        }
    }

    private void nothingChangesInANewObject() {
        check.sentence("A call that is refused, or throws, changes nothing: of a new object");
        List<Refused> calls = refusedAlways(0, 0);
        calls.add(run -> run.print(PostTariff.STATE));
        changesNothing(run -> { }, 0, calls);
        changesNothing(run -> run.text("K1;S1 5;Z0 0;X7 2"), 0, calls);
    }

    private static void makeItems(Run run) {
        run.item(1, 5, 1, 1, 1, 0).item(2, 3, 2, 1, 1, 1).service(0, 3, 1);
    }

    private void nothingChangesWithoutAnEdition() {
        check.sentence("A call that is refused, or throws, changes nothing: without an edition");
        List<Refused> calls = refusedAlways(2, 0);
        addOutside(calls, 0);
        addOutside(calls, 1);
        calls.add(run -> run.print(PostTariff.STATE));
        calls.add(run -> run.price(0, 0, 1, PostTariff.STATE));
        calls.add(run -> run.least(1, 9, DAY, PostTariff.STATE));
        changesNothing(RefusalEdgesTest::makeItems, 2, calls);
        changesNothing(run -> {
            makeItems(run);
            run.text("K1;S9 5;Z0 0;X3 4;X7 2");
        }, 2, calls);
    }

    /** Two editions; the first one is printed, and a price of it is told, with a part of each sort. */
    private static void makePrice(Run run) {
        makeItems(run);
        run.edition("K1;S9 5;Z0 20;X3 4;R7").price(0, 0, 1, 14).print(21);
        run.edition("K1;S9 5;Z0 0;X3 4;X7 0;K2;S9 1;Z0 0;X7 3");
    }

    private void nothingChangesBehindAPrice() {
        check.sentence("A call that is refused, or throws, changes nothing: behind a price");
        List<Refused> calls = refusedAlways(2, 2);
        addOutside(calls, 0);
        addOutside(calls, 1);
        changesNothing(RefusalEdgesTest::makePrice, 2, calls);
        changesNothing(run -> {
            makePrice(run);
            run.text("K3;S9 1");
        }, 2, calls);
    }

    /** A hundred items and five editions. */
    private static void makeAll(Run run) {
        makeItems(run);
        for (int i = 2; i < 100; i++) {
            run.item(3, i, 1, 1, 1, i);
        }
        run.edition("K1;S9 5;Z0 20;X3 4;R7").price(0, 0, 1, 14).print(21);
        run.read(0).read(0).read(0).edition("K2;S3 4;Z0 9");
    }

    private static String toldOfAll(Run run) {
        StringBuilder told = new StringBuilder(run.partsTold()).append('|').append(run.signsTold());
        for (int e = 0; e <= 5; e++) {
            int edition = e;
            told.append(',').append(run.answer("compare", x -> x.compare(edition)));
        }
        int[] items = {0, 1, 2, 99, 100};
        for (int item : items) {
            told.append("|least ").append(run.answer("least", x -> x.least(item, 0, 1)));
            told.append(" price ").append(run.answer("price", x -> x.price(item, 0, 1)));
            told.append(" services ").append(run.answer("service", x -> x.service(item, 7)));
        }
        told.append("|item ").append(run.answer("item", x -> x.item(1, 1, 1, 1, 1)));
        told.append("|print ").append(run.answer("print", x -> x.print())).append(run.signsTold());
        told.append("|read ").append(run.answer("read", x -> x.read()));
        told.append("|print ").append(run.answer("print", x -> x.print())).append(run.signsTold());
        return told.toString();
    }

    private void nothingChangesWhenAllIsFull() {
        check.sentence("A call that is refused, or throws, changes nothing: with no room");
        List<Refused> calls = refusedAlways(100, 5);
        addOutside(calls, 0);
        addOutside(calls, 99);
        calls.add(run -> run.item(1, 1, 1, 1, 1, PostTariff.ROOM));
        calls.add(run -> run.item(9, 100000, 100000, 100000, 100000, PostTariff.ROOM));
        calls.add(run -> run.read(PostTariff.ROOM));
        Run plain = new Run(check);
        makeAll(plain);
        String due = toldOfAll(plain);
        for (Refused one : calls) {
            Run other = new Run(check);
            makeAll(other);
            one.call(other);
            check.due("what is told behind a refused call", toldOfAll(other), due);
        }
    }

    private void aFaultyTextChangesNothingButTheText() {
        check.sentence("changes nothing (but the text, by read()): a fault");
        String whole = Texts.ALL_ROWS;
        String[] texts = {"x", ";", "K", "K1", "K1;S0", "K1;S9 1;", whole + ";", whole + ";K1", whole + ";K3",
            "K1;S1 9;Z0 9;X3 9;X7 9;K2;S1 9;Z0 9;X7 9;K2"};
        List<Refused> calls = new ArrayList<>();
        for (String text : texts) {
            int place = text.equals(whole + ";K1") ? text.length() - 1 : text.equals("x") || text.equals(";") ? 0
                    : text.endsWith("S0") ? 4 : text.endsWith("X7 9;K2") ? text.length() - 1 : text.length();
            calls.add(run -> run.fault(text, place));
        }
        changesNothing(run -> { }, 0, calls.subList(0, 6));
        changesNothing(RefusalEdgesTest::makeItems, 2, calls);
        changesNothing(RefusalEdgesTest::makePrice, 2, calls);
        Run run = new Run(check).text("K1;S1").read(-6).read(0).compare(0, 0);
        run.text("K1;").read(-4).edition("K1;S1 5").printed("K1;S1 5");
    }

    private void aTextWithoutRoomChangesNothingButTheText() {
        check.sentence("changes nothing (but the text, by read()): ROOM");
        String[] texts = {"", "K1;S1 1", "K2;S9 9;Z0 9", Texts.ALL_ROWS};
        Run plain = new Run(check);
        makeAll(plain);
        String due = toldOfAll(plain);
        for (String text : texts) {
            Run other = new Run(check);
            makeAll(other);
            other.text(text).read(PostTariff.ROOM);
            check.due("what is told behind ROOM", toldOfAll(other), due);
            Run faulty = new Run(check);
            makeAll(faulty);
            faulty.fault(text + ";", text.isEmpty() ? 0 : text.length() + 1);
            check.due("what is told behind a fault", toldOfAll(faulty), due);
        }
        Run run = new Run(check);
        makeAll(run);
        run.text("K1;S1").read(-6).text("K1;S1 5").read(PostTariff.ROOM).text(" 6").read(-1).read(PostTariff.ROOM);
    }

    private void whatOnlyTellsChangesNothing() {
        check.sentence("least, explain, dimensional, compare and at tell, and change nothing");
        List<Refused> calls = new ArrayList<>();
        calls.add(run -> run.least(0, 0, 1, 1));
        calls.add(run -> run.least(1, 0, 1, 2));
        calls.add(run -> run.least(1, 1, 1, PostTariff.NONE));
        calls.add(run -> run.explain(0, 1, 5));
        calls.add(run -> run.explain(3, 2, 7));
        calls.add(run -> run.dimensional(10, 3, 4));
        calls.add(run -> run.compare(0, 2));
        calls.add(run -> run.compare(1, 0));
        calls.add(run -> run.at(0, 'K'));
        calls.add(run -> run.service(0, 3, 1));
        changesNothing(RefusalEdgesTest::makePrice, 2, calls);
    }
}
