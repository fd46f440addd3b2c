import java.math.BigDecimal;
import java.math.RoundingMode;
import java.util.ArrayList;
import java.util.List;
import java.util.Map;
import java.util.TreeMap;
import java.util.TreeSet;

/** The document, written a second time with the library's maps and texts, to compare answers with. */
final class Model {
    private static final class ModelKind {
        final TreeMap<Integer, Integer> steps = new TreeMap<>();
        final TreeMap<Integer, Integer> zones = new TreeMap<>();
        final TreeMap<Integer, Integer> services = new TreeMap<>();
        final TreeSet<String> pairs = new TreeSet<>();
        final TreeMap<Character, int[]> once = new TreeMap<>();

        String printed(int k) {
            StringBuilder rows = new StringBuilder("K" + k);
            steps.forEach((w, c) -> rows.append(";S").append(w).append(' ').append(c));
            zones.forEach((z, p) -> rows.append(";Z").append(z).append(' ').append(p));
            services.forEach((s, c) -> rows.append(";X").append(s).append(' ').append(c));
            pairs.forEach(pair -> rows.append(";E").append(pair));
            for (char letter : "DMFR".toCharArray()) {
                if (once.containsKey(letter)) {
                    StringBuilder numbers = new StringBuilder();
                    for (int number : once.get(letter)) {
                        numbers.append(' ').append(number);
                    }
                    rows.append(';').append(letter).append(numbers.substring(1));
                }
            }
            return rows.toString();
        }
    }

    private static final class Fault extends Exception {
        private static final long serialVersionUID = 1L;
        final int place;

        Fault(int place) {
            this.place = place;
        }
    }

    private final StringBuilder text = new StringBuilder();
    private final List<TreeMap<Integer, ModelKind>> editions = new ArrayList<>();
    private final List<int[]> items = new ArrayList<>();
    private final List<TreeSet<Integer>> itemServices = new ArrayList<>();
    private List<int[]> parts = new ArrayList<>();
    private String printed = "";

    private TreeMap<Integer, ModelKind> reading;
    private ModelKind open;

    void sign(int c) {
        if (c >= 0 && c <= 126 && text.length() < 1500) {
            text.append((char) c);
        }
    }

    int read() {
        String whole = text.toString();
        text.setLength(0);
        reading = new TreeMap<>();
        open = null;
        try {
            int rows = whole.isEmpty() ? 0 : readRows(whole);
            if (editions.size() == 5) {
                return PostTariff.ROOM;
            }
            editions.add(reading);
            return rows;
        } catch (Fault fault) {
            return -1 - fault.place;
        }
    }

    /** Goes sign by sign; the end counts as the sign 0xFFFF behind the last one. */
    private int readRows(String whole) throws Fault {
        int rows = 0;
        char letter = 0;
        int[] numbers = null;
        int n = 0;
        StringBuilder digits = new StringBuilder();
        for (int p = 0; p <= whole.length(); p++) {
            char c = p < whole.length() ? whole.charAt(p) : '\uffff';
            if (numbers == null) {
                checkLetter(c, p);
                letter = c;
                numbers = new int["KMR".indexOf(c) >= 0 ? 1 : c == 'D' ? 3 : 2];
                n = 0;
                continue;
            }
            if (c >= '0' && c <= '9' && digits.length() < 7) {
                digits.append(c);
                if (digits.length() == 7) {
                    checkNumber(letter, numbers, n, Integer.parseInt(digits.toString()), p - 6);
                }
                continue;
            }
            if (digits.length() == 0) {
                throw new Fault(p);
            }
            int value = Integer.parseInt(digits.toString());
            checkNumber(letter, numbers, n, value, p - digits.length());
            digits.setLength(0);
            numbers[n++] = value;
            if (n < numbers.length) {
                if (c != ' ') {
                    throw new Fault(p);
                }
                continue;
            }
            if (c != ';' && c != '\uffff') {
                throw new Fault(p);
            }
            take(letter, numbers);
            rows++;
            numbers = null;
            if (c == '\uffff') {
                break;
            }
        }
        if (open.steps.isEmpty()) {
            throw new Fault(whole.length());
        }
        return rows;
    }

    private void checkLetter(char c, int place) throws Fault {
        boolean may;
        if (open == null) {
            may = c == 'K';
        } else if (c == 'K') {
            may = !open.steps.isEmpty();
        } else if (c == 'S') {
            may = open.steps.size() < 10;
        } else if (c == 'E') {
            may = open.pairs.size() < 10;
        } else if ("DMFR".indexOf(c) >= 0) {
            may = !open.once.containsKey(c);
        } else {
            may = c == 'Z' || c == 'X';
        }
        if (!may) {
            throw new Fault(place);
        }
    }

    private void checkNumber(char letter, int[] before, int n, int value, int place) throws Fault {
        boolean may = true;
        switch (letter + "" + n) {
            case "K0": may = value < 10 && !reading.containsKey(value); break;
            case "S0": may = value > (open.steps.isEmpty() ? 0 : open.steps.lastKey()); break;
            case "Z0": may = value < 10 && !open.zones.containsKey(value); break;
            case "Z1": may = value <= 1000; break;
            case "X0": may = value < 10 && !open.services.containsKey(value); break;
            case "E0": may = open.services.containsKey(value); break;
            case "E1":
                may = open.services.containsKey(value) && value != before[0] && !open.pairs.contains(pair(before[0], value));
                break;
            case "D0": case "D1": case "D2": case "M0": may = value > 0; break;
            case "F1": may = value >= before[0]; break;
            case "R0": may = value > 0 && value <= 1000; break;
            default: break;
        }
        if (!may) {
            throw new Fault(place);
        }
    }

    private static String pair(int s, int t) {
        return Math.min(s, t) + " " + Math.max(s, t);
    }

    private void take(char letter, int[] numbers) {
        switch (letter) {
            case 'K':
                open = new ModelKind();
                reading.put(numbers[0], open);
                break;
            case 'S': open.steps.put(numbers[0], numbers[1]); break;
            case 'Z': open.zones.put(numbers[0], numbers[1]); break;
            case 'X': open.services.put(numbers[0], numbers[1]); break;
            case 'E': open.pairs.add(pair(numbers[0], numbers[1])); break;
            default: open.once.put(letter, numbers); break;
        }
    }

    int item(int kind, int weight, int width, int height, int depth) {
        boolean within = kind >= 0 && kind <= 9;
        for (int measure : new int[] {weight, width, height, depth}) {
            within &= measure >= 1 && measure <= 100000;
        }
        if (!within) {
            return PostTariff.OUTSIDE;
        }
        if (items.size() == 100) {
            return PostTariff.ROOM;
        }
        items.add(new int[] {kind, weight, width, height, depth});
        itemServices.add(new TreeSet<>());
        return items.size() - 1;
    }

    int service(int item, int s) {
        if (item < 0 || item >= items.size()) {
            return PostTariff.UNKNOWN;
        }
        if (s < 0 || s > 9) {
            return PostTariff.OUTSIDE;
        }
        itemServices.get(item).add(s);
        return itemServices.get(item).size();
    }

    private int refusal(int item, int zone, long day) {
        if (item < 0 || item >= items.size()) {
            return PostTariff.UNKNOWN;
        }
        if (zone < 0 || zone > 9 || day < 0 || day > 9999999) {
            return PostTariff.OUTSIDE;
        }
        return editions.isEmpty() ? PostTariff.STATE : 0;
    }

    private TreeMap<Integer, ModelKind> latest() {
        return editions.get(editions.size() - 1);
    }

    long price(int item, int zone, long day) {
        int refusal = refusal(item, zone, day);
        if (refusal != 0) {
            return refusal;
        }
        parts = bill(items.get(item), itemServices.get(item), latest().get(items.get(item)[0]), zone, day);
        return total(parts);
    }

    private static long total(List<int[]> parts) {
        return parts.isEmpty() ? PostTariff.NONE : parts.stream().mapToLong(part -> part[1]).sum();
    }

    private static List<int[]> bill(int[] item, TreeSet<Integer> services, ModelKind kind, int zone, long day) {
        List<int[]> parts = new ArrayList<>();
        if (kind == null || !kind.zones.containsKey(zone) || !kind.services.keySet().containsAll(services)) {
            return parts;
        }
        int[] days = kind.once.getOrDefault('F', new int[] {0, 9999999});
        int[] size = kind.once.getOrDefault('D', new int[] {100000, 100000, 100000});
        boolean fits = days[0] <= day && day <= days[1] && item[2] <= size[0] && item[3] <= size[1] && item[4] <= size[2];
        for (int s : services) {
            for (int t : services) {
                fits &= s == t || !kind.pairs.contains(pair(s, t));
            }
        }
        long weight = item[1];
        if (kind.once.containsKey('M')) {
            long volume = 1L * item[2] * item[3] * item[4];
            weight = Math.max(weight, -Math.floorDiv(-volume, (long) kind.once.get('M')[0]));
        }
        if (!fits || weight > kind.steps.lastKey()) {
            return parts;
        }
        Map.Entry<Integer, Integer> step = kind.steps.ceilingEntry((int) weight);
        parts.add(new int[] {0, step.getValue(), kind.steps.headMap(step.getKey()).size()});
        parts.add(new int[] {1, (int) (1L * step.getValue() * kind.zones.get(zone) / 100), zone});
        for (int s : services) {
            parts.add(new int[] {2, kind.services.get(s), s});
        }
        if (kind.once.containsKey('R')) {
            int whole = kind.once.get('R')[0];
            parts.add(new int[] {3, (int) Math.floorMod(-total(parts), (long) whole), whole});
        }
        return parts;
    }

    int least(int item, int zone, long day) {
        int refusal = refusal(item, zone, day);
        if (refusal != 0) {
            return refusal;
        }
        int best = PostTariff.NONE;
        long bestTotal = Long.MAX_VALUE;
        for (Map.Entry<Integer, ModelKind> kind : latest().entrySet()) {
            long total = total(bill(items.get(item), itemServices.get(item), kind.getValue(), zone, day));
            if (total >= 0 && total < bestTotal) {
                best = kind.getKey();
                bestTotal = total;
            }
        }
        return best;
    }

    int explain(int i, int what) {
        return i < 0 || i >= parts.size() || what < 0 || what > 2 ? PostTariff.NONE : parts.get(i)[what];
    }

    long dimensional(long volume, long divisor) {
        long most = 1_000_000_000_000_000L;
        if (Math.min(volume, divisor) < 0 || Math.max(volume, divisor) > most) {
            return PostTariff.OUTSIDE;
        }
        return BigDecimal.valueOf(volume).divide(BigDecimal.valueOf(divisor), 0, RoundingMode.CEILING).longValueExact();
    }

    int compare(int edition) {
        if (edition < 0 || edition >= editions.size()) {
            return PostTariff.UNKNOWN;
        }
        int different = 0;
        for (int k = 0; k <= 9; k++) {
            if (!printedKind(editions.get(edition), k).equals(printedKind(latest(), k))) {
                different++;
            }
        }
        return different;
    }

    private static String printedKind(TreeMap<Integer, ModelKind> edition, int k) {
        return edition.containsKey(k) ? edition.get(k).printed(k) : "";
    }

    int print() {
        if (editions.isEmpty()) {
            return PostTariff.STATE;
        }
        List<String> kinds = new ArrayList<>();
        latest().forEach((k, kind) -> kinds.add(kind.printed(k)));
        printed = String.join(";", kinds);
        return printed.length();
    }

    int at(int i) {
        return i >= 0 && i < printed.length() ? printed.charAt(i) : PostTariff.NONE;
    }
}
