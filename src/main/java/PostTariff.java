/**
 * Tariffs of a post that texts tell: kinds with steps by weight, zones, services, greatest sizes,
 * weights by volume, days and rounding.
 *
 * Every row is made in a constructor and used again, so that calls make next to nothing; and every
 * row is read and written through cell and put, which look at the index first.
 */
public final class PostTariff {
    public static final int NONE = -1;
    public static final int UNKNOWN = -1000001, OUTSIDE = -1000002, STATE = -1000003, ROOM = -1000004;

    private static final int MOST_SIGNS = 1500;
    private static final int GREATEST_SIGN = 126;
    private static final int MOST_EDITIONS = 5;
    private static final int MOST_ITEMS = 100;
    private static final int GREATEST_MEASURE = 100000;
    private static final int NAMES = 10;
    private static final int MOST_STEPS = 10;
    private static final int MOST_EXCLUSIONS = 10;
    private static final int MOST_DIGITS = 7;
    private static final int MOST_NUMBERS = 3;
    private static final int GREATEST_SHARE = 1000;
    private static final int GREATEST_WHOLE = 1000;
    private static final long GREATEST_DAY = 9999999L;
    private static final long GREATEST_VOLUME = 1000000000000000L;

    /** What a check answers that refuses nothing; no refusal is 0. */
    private static final int FINE = 0;

    private static final int SORT_STEP = 0;
    private static final int SORT_ZONE = 1;
    private static final int SORT_SERVICE = 2;
    private static final int SORT_ROUNDING = 3;
    private static final int MOST_PARTS = NAMES + 3;

    private final Reader reader = new Reader();
    private final Printer printer = new Printer();
    private final Bill told = new Bill();
    private final Bill tried = new Bill();
    private final Item[] items = new Item[MOST_ITEMS];
    private int itemCount;
    /** One more than there may be: a text is read into the next one, and only a faultless one counts. */
    private final Edition[] editions = new Edition[MOST_EDITIONS + 1];
    private int editionCount;

    public PostTariff() {
        for (int i = 0; i < editions.length; i++) {
            editions[i] = new Edition();
        }
    }

    public void sign(int c) {
        if (isWithin(c, 0, GREATEST_SIGN)) {
            reader.append(c);
        }
    }

    public int read() {
        Edition next = slot(editionCount);
        if (next == null) {
            return ROOM;
        }
        int rows = reader.readInto(next);
        reader.empty();
        if (rows < 0) {
            return rows;
        }
        if (editionCount >= MOST_EDITIONS) {
            return ROOM;
        }
        editionCount++;
        return rows;
    }

    public int item(int kind, int weight, int width, int height, int depth) {
        if (!isName(kind) || !isMeasure(weight) || !isMeasure(width) || !isMeasure(height) || !isMeasure(depth)) {
            return OUTSIDE;
        }
        if (itemCount < 0 || itemCount >= items.length) {
            return ROOM;
        }
        items[itemCount] = new Item(kind, weight, width, height, depth);
        itemCount++;
        return itemCount - 1;
    }

    public int service(int item, int s) {
        Item wanted = itemOf(item);
        if (wanted == null) {
            return UNKNOWN;
        }
        if (!isName(s)) {
            return OUTSIDE;
        }
        wanted.services |= 1 << s;
        return Integer.bitCount(wanted.services);
    }

    public long price(int item, int zone, long day) {
        Item priced = itemOf(item);
        if (priced == null) {
            return UNKNOWN;
        }
        int refusal = pricingRefusal(zone, day);
        if (refusal != FINE) {
            return refusal;
        }
        told.make(priced, kindOf(latest(), priced.kind), zone, day);
        return told.total;
    }

    public int least(int item, int zone, long day) {
        Item priced = itemOf(item);
        if (priced == null) {
            return UNKNOWN;
        }
        int refusal = pricingRefusal(zone, day);
        if (refusal != FINE) {
            return refusal;
        }
        Edition latest = latest();
        int best = NONE;
        long bestTotal = NONE;
        for (int k = 0; k < NAMES; k++) {
            tried.make(priced, kindOf(latest, k), zone, day);
            if (tried.total != NONE && (best == NONE || tried.total < bestTotal)) {
                best = k;
                bestTotal = tried.total;
            }
        }
        return best;
    }

    public int explain(int i, int what) {
        return told.tell(i, what);
    }

    public long dimensional(long volume, long divisor) throws ArithmeticException {
        if (volume < 0 || volume > GREATEST_VOLUME || divisor < 0 || divisor > GREATEST_VOLUME) {
            return OUTSIDE;
        }
        if (divisor == 0) {
            throw new ArithmeticException("the divisor is 0");
        }
        return dividedUp(volume, divisor);
    }

    public int compare(int edition) {
        if (edition < 0 || edition >= editionCount) {
            return UNKNOWN;
        }
        Edition one = slot(edition);
        Edition other = latest();
        int different = 0;
        for (int k = 0; k < NAMES; k++) {
            if (!arePrintedAlike(kindOf(one, k), kindOf(other, k))) {
                different++;
            }
        }
        return different;
    }

    public int print() {
        Edition latest = latest();
        if (latest == null) {
            return STATE;
        }
        printer.start();
        for (int k = 0; k < NAMES; k++) {
            printer.addKind(k, kindOf(latest, k));
        }
        return printer.length;
    }

    public int at(int i) {
        return i < printer.length ? cell(printer.signs, i) : NONE;
    }

    private int pricingRefusal(int zone, long day) {
        if (!isName(zone) || day < 0 || day > GREATEST_DAY) {
            return OUTSIDE;
        }
        return latest() == null ? STATE : FINE;
    }

    private Item itemOf(int i) {
        return i >= 0 && i < itemCount && i < items.length ? items[i] : null;
    }

    private Edition slot(int i) {
        return i >= 0 && i < editions.length ? editions[i] : null;
    }

    private Edition latest() {
        return slot(editionCount - 1);
    }

    private static boolean isWithin(int number, int least, int greatest) {
        return number >= least && number <= greatest;
    }

    /** Whether a number may name a kind, a zone or a service. */
    private static boolean isName(int number) {
        return isWithin(number, 0, NAMES - 1);
    }

    private static boolean isMeasure(int number) {
        return isWithin(number, 1, GREATEST_MEASURE);
    }

    private static int cell(int[] row, int i) {
        return row != null && i >= 0 && i < row.length ? row[i] : NONE;
    }

    private static void put(int[] row, int i, int value) {
        if (row != null && i >= 0 && i < row.length) {
            row[i] = value;
        }
    }

    private static void fill(int[] row, int value) {
        for (int i = 0; row != null && i < row.length; i++) {
            row[i] = value;
        }
    }

    /** Both are at most 10^15, and so their sum does not wrap around. */
    private static long dividedUp(long volume, long divisor) {
        return divisor > 0 ? (volume + divisor - 1) / divisor : 0;
    }

    /** The kind k of an edition, null when the edition does not have it. */
    private static Kind kindOf(Edition edition, int k) {
        Kind kind = edition == null ? null : edition.place(k);
        return kind != null && kind.there ? kind : null;
    }

    private static boolean arePrintedAlike(Kind one, Kind other) {
        if (one == null || other == null) {
            return one == other;
        }
        return one.hasSameStepsAs(other) && one.hasSameNamesAs(other) && one.hasSameLimitsAs(other);
    }

    /** A parcel or letter; its services are bits by their numbers. */
    private static final class Item {
        final int kind;
        final int weight;
        final int width;
        final int height;
        final int depth;
        int services;

        Item(int kind, int weight, int width, int height, int depth) {
            this.kind = kind;
            this.weight = weight;
            this.width = width;
            this.height = height;
            this.depth = depth;
        }

        boolean has(int s) {
            return (services & 1 << s) != 0;
        }
    }

    /** What the rows of one kind tell; NONE stands wherever there is no such row. */
    private static final class Kind {
        boolean there;
        int steps;
        final int[] weights = new int[MOST_STEPS];
        final int[] costs = new int[MOST_STEPS];
        final int[] zones = new int[NAMES];
        final int[] services = new int[NAMES];
        /** For each service the bits of those that it excludes; each pair stands on both sides. */
        final int[] excluded = new int[NAMES];
        int exclusions;
        int width;
        int height;
        int depth;
        int divisor;
        int firstDay;
        int lastDay;
        int whole;

        void clear() {
            there = false;
            steps = 0;
            fill(zones, NONE);
            fill(services, NONE);
            fill(excluded, 0);
            exclusions = 0;
            width = NONE;
            height = NONE;
            depth = NONE;
            divisor = NONE;
            firstDay = NONE;
            lastDay = NONE;
            whole = NONE;
        }

        void addStep(int weight, int cost) {
            put(weights, steps, weight);
            put(costs, steps, cost);
            steps++;
        }

        void exclude(int s, int t) {
            put(excluded, s, cell(excluded, s) | 1 << t);
            put(excluded, t, cell(excluded, t) | 1 << s);
            exclusions++;
        }

        boolean excludes(int s, int t) {
            return (cell(excluded, s) & 1 << t) != 0;
        }

        /** The weight above which the next step has to be. */
        int lastWeight() {
            return steps > 0 ? cell(weights, steps - 1) : 0;
        }

        boolean takes(Item item, int zone, long day) {
            boolean onDay = firstDay == NONE || day >= firstDay && day <= lastDay;
            boolean fits = width == NONE || item.width <= width && item.height <= height && item.depth <= depth;
            return onDay && fits && cell(zones, zone) != NONE && takesServices(item);
        }

        boolean takesServices(Item item) {
            for (int s = 0; s < NAMES; s++) {
                if (item.has(s) && (cell(services, s) == NONE || (cell(excluded, s) & item.services) != 0)) {
                    return false;
                }
            }
            return true;
        }

        long weightOf(Item item) {
            if (divisor == NONE) {
                return item.weight;
            }
            return Math.max(item.weight, dividedUp((long) item.width * item.height * item.depth, divisor));
        }

        /** The first step that reaches up to a weight, NONE when all are below it. */
        int stepFor(long weight) {
            for (int i = 0; i < steps; i++) {
                if (cell(weights, i) >= weight) {
                    return i;
                }
            }
            return NONE;
        }

        boolean hasSameStepsAs(Kind other) {
            if (steps != other.steps) {
                return false;
            }
            for (int i = 0; i < steps; i++) {
                if (cell(weights, i) != cell(other.weights, i) || cell(costs, i) != cell(other.costs, i)) {
                    return false;
                }
            }
            return true;
        }

        boolean hasSameNamesAs(Kind other) {
            for (int i = 0; i < NAMES; i++) {
                if (cell(zones, i) != cell(other.zones, i) || cell(services, i) != cell(other.services, i)
                        || cell(excluded, i) != cell(other.excluded, i)) {
                    return false;
                }
            }
            return true;
        }

        boolean hasSameLimitsAs(Kind other) {
            return width == other.width && height == other.height && depth == other.depth
                    && divisor == other.divisor && firstDay == other.firstDay && lastDay == other.lastDay
                    && whole == other.whole;
        }
    }

    /** The kinds 0 .. 9 of one text. */
    private static final class Edition {
        private final Kind[] kinds = new Kind[NAMES];

        Edition() {
            for (int k = 0; k < kinds.length; k++) {
                kinds[k] = new Kind();
            }
        }

        Kind place(int k) {
            return k >= 0 && k < kinds.length ? kinds[k] : null;
        }

        void clear() {
            for (int k = 0; k < kinds.length; k++) {
                Kind kind = kinds[k];
                if (kind != null) {
                    kind.clear();
                }
            }
        }
    }

    /** The parts of a price, and what they come to; a new one tells nothing. */
    private static final class Bill {
        private final int[] sorts = new int[MOST_PARTS];
        private final int[] sums = new int[MOST_PARTS];
        private final int[] numbers = new int[MOST_PARTS];
        private int parts;
        long total = NONE;

        void make(Item item, Kind kind, int zone, long day) {
            parts = 0;
            total = NONE;
            if (item == null || kind == null || !kind.takes(item, zone, day)) {
                return;
            }
            int step = kind.stepFor(kind.weightOf(item));
            if (step == NONE) {
                return;
            }
            total = 0;
            addParts(item, kind, step, zone);
        }

        private void addParts(Item item, Kind kind, int step, int zone) {
            long cost = cell(kind.costs, step);
            add(SORT_STEP, cost, step);
            add(SORT_ZONE, cost * cell(kind.zones, zone) / 100, zone);
            for (int s = 0; s < NAMES; s++) {
                if (item.has(s)) {
                    add(SORT_SERVICE, cell(kind.services, s), s);
                }
            }
            if (kind.whole > 0) {
                add(SORT_ROUNDING, dividedUp(total, kind.whole) * kind.whole - total, kind.whole);
            }
        }

        /** No part is above 99999990, the dearest step's greatest share for a zone: an int holds it. */
        private void add(int sort, long sum, int number) {
            put(sorts, parts, sort);
            put(sums, parts, (int) sum);
            put(numbers, parts, number);
            parts++;
            total += sum;
        }

        int tell(int i, int what) {
            if (i < 0 || i >= parts) {
                return NONE;
            }
            switch (what) {
                case 0:
                    return cell(sorts, i);
                case 1:
                    return cell(sums, i);
                case 2:
                    return cell(numbers, i);
                default:
                    return NONE;
            }
        }
    }

    /** Holds the text that is being signed and reads it, row by row, up to its first fault. */
    private static final class Reader {
        private final int[] text = new int[MOST_SIGNS];
        private int length;
        private int position;
        private int fault;
        private Edition edition;
        /** The kind that the rows are of; null before the first K. */
        private Kind kind;
        private final int[] numbers = new int[MOST_NUMBERS];

        void append(int c) {
            if (length < MOST_SIGNS) {
                put(text, length, c);
                length++;
            }
        }

        void empty() {
            length = 0;
        }

        /** How many rows the text has, or -1 less the place of its first fault. */
        int readInto(Edition target) {
            target.clear();
            edition = target;
            kind = null;
            position = 0;
            fault = NONE;
            int rows = 0;
            boolean more = length > 0;
            while (more && fault == NONE && rows < MOST_SIGNS) {
                readRow();
                rows++;
                more = position < length;
                if (more) {
                    expect(';');
                }
            }
            if (fault == NONE && kind != null && kind.steps == 0) {
                fault = length;
            }
            return fault == NONE ? rows : -1 - fault;
        }

        private void readRow() {
            int letter = signHere();
            if (!mayBegin(letter)) {
                fault = position;
                return;
            }
            position++;
            int count = numbersOf(letter);
            for (int n = 0; n < count && fault == NONE; n++) {
                if (n > 0) {
                    expect(' ');
                }
                readNumber(letter, n);
            }
            if (fault == NONE) {
                take(letter);
            }
        }

        /** The sign that is next, NONE behind the last one. */
        private int signHere() {
            return position < length ? cell(text, position) : NONE;
        }

        private void expect(int c) {
            if (fault != NONE) {
                return;
            }
            if (signHere() == c) {
                position++;
            } else {
                fault = position;
            }
        }

        /** A number is looked at as soon as it has seven digits: an eighth is a fault of its own, behind it. */
        private void readNumber(int letter, int n) {
            if (fault != NONE) {
                return;
            }
            int start = position;
            int value = 0;
            while (position < start + MOST_DIGITS && isWithin(signHere(), '0', '9')) {
                value = value * 10 + signHere() - '0';
                position++;
            }
            if (position == start || !isAsSaid(letter, n, value)) {
                fault = start;
            } else {
                put(numbers, n, value);
            }
        }

        private static int numbersOf(int letter) {
            switch (letter) {
                case 'K':
                case 'M':
                case 'R':
                    return 1;
                case 'D':
                    return 3;
                default:
                    return 2;
            }
        }

        private boolean mayBegin(int letter) {
            if (kind == null) {
                return letter == 'K';
            }
            switch (letter) {
                case 'K':
                    return kind.steps > 0;
                case 'S':
                    return kind.steps < MOST_STEPS;
                case 'Z':
                case 'X':
                    return true;
                case 'E':
                    return kind.exclusions < MOST_EXCLUSIONS;
                case 'D':
                    return kind.width == NONE;
                case 'M':
                    return kind.divisor == NONE;
                case 'F':
                    return kind.firstDay == NONE;
                case 'R':
                    return kind.whole == NONE;
                default:
                    return false;
            }
        }

        /** Whether a row's n-th number may be this value; the numbers before it are kept already. */
        private boolean isAsSaid(int letter, int n, int value) {
            if (letter == 'K') {
                return isName(value) && kindOf(edition, value) == null;
            }
            if (kind == null) {
                return false;
            }
            switch (letter) {
                case 'S':
                    return n > 0 || value > kind.lastWeight();
                case 'Z':
                    return n > 0 ? value <= GREATEST_SHARE : isName(value) && cell(kind.zones, value) == NONE;
                case 'X':
                    return n > 0 || isName(value) && cell(kind.services, value) == NONE;
                case 'E':
                    return isExcludable(n, value);
                case 'F':
                    return n == 0 || value >= cell(numbers, 0);
                case 'R':
                    return isWithin(value, 1, GREATEST_WHOLE);
                default:
                    return value >= 1;
            }
        }

        private boolean isExcludable(int n, int value) {
            if (kind == null || !isName(value) || cell(kind.services, value) == NONE) {
                return false;
            }
            int s = cell(numbers, 0);
            return n == 0 || value != s && !kind.excludes(s, value);
        }

        private void take(int letter) {
            int a = cell(numbers, 0);
            int b = cell(numbers, 1);
            if (letter == 'K') {
                begin(a);
            } else if (kind != null) {
                takeOf(kind, letter, a, b);
            }
        }

        private void begin(int k) {
            kind = edition == null ? null : edition.place(k);
            if (kind != null) {
                kind.there = true;
            }
        }

        private void takeOf(Kind open, int letter, int a, int b) {
            switch (letter) {
                case 'S':
                    open.addStep(a, b);
                    break;
                case 'Z':
                    put(open.zones, a, b);
                    break;
                case 'X':
                    put(open.services, a, b);
                    break;
                case 'E':
                    open.exclude(a, b);
                    break;
                case 'D':
                    open.width = a;
                    open.height = b;
                    open.depth = cell(numbers, 2);
                    break;
                case 'M':
                    open.divisor = a;
                    break;
                case 'F':
                    open.firstDay = a;
                    open.lastDay = b;
                    break;
                case 'R':
                    open.whole = a;
                    break;
                default:
                    break;
            }
        }
    }

    /** What was printed latest; no longer than the text that told it, as each row was one of its rows. */
    private static final class Printer {
        final int[] signs = new int[MOST_SIGNS];
        int length;

        void start() {
            length = 0;
        }

        void addKind(int k, Kind kind) {
            if (kind == null) {
                return;
            }
            addRow('K', k, NONE, NONE);
            for (int i = 0; i < kind.steps; i++) {
                addRow('S', cell(kind.weights, i), cell(kind.costs, i), NONE);
            }
            addNamed('Z', kind.zones);
            addNamed('X', kind.services);
            addExclusions(kind);
            addLimits(kind);
        }

        private void addNamed(int letter, int[] row) {
            for (int i = 0; i < NAMES; i++) {
                int value = cell(row, i);
                if (value != NONE) {
                    addRow(letter, i, value, NONE);
                }
            }
        }

        private void addExclusions(Kind kind) {
            for (int s = 0; s < NAMES; s++) {
                for (int t = s + 1; t < NAMES; t++) {
                    if (kind.excludes(s, t)) {
                        addRow('E', s, t, NONE);
                    }
                }
            }
        }

        private void addLimits(Kind kind) {
            if (kind.width != NONE) {
                addRow('D', kind.width, kind.height, kind.depth);
            }
            if (kind.divisor != NONE) {
                addRow('M', kind.divisor, NONE, NONE);
            }
            if (kind.firstDay != NONE) {
                addRow('F', kind.firstDay, kind.lastDay, NONE);
            }
            if (kind.whole != NONE) {
                addRow('R', kind.whole, NONE, NONE);
            }
        }

        /** A row of one to three numbers; NONE stands for those that it does not have. */
        private void addRow(int letter, int a, int b, int c) {
            if (length > 0) {
                addSign(';');
            }
            addSign(letter);
            addNumber(a);
            if (b != NONE) {
                addSign(' ');
                addNumber(b);
            }
            if (c != NONE) {
                addSign(' ');
                addNumber(c);
            }
        }

        private void addNumber(int number) {
            int unit = 1;
            for (int digits = 1; digits < MOST_DIGITS && number >= unit * 10; digits++) {
                unit *= 10;
            }
            for (; unit > 0; unit /= 10) {
                addSign('0' + number / unit % 10);
            }
        }

        private void addSign(int c) {
            if (length < MOST_SIGNS) {
                put(signs, length, c);
                length++;
            }
        }
    }
}
