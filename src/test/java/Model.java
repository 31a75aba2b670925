import java.util.ArrayDeque;
import java.util.ArrayList;
import java.util.Comparator;
import java.util.Deque;
import java.util.List;
import java.util.Map;
import java.util.TreeMap;
import java.util.regex.Matcher;
import java.util.regex.Pattern;

/** The document's words once more, in another way and with the whole library: every state is copied whole. */
final class Model {
    private static final Pattern TEXT;

    static {
        String number = "(?:0|[1-9][0-9]?)";
        String order = "(?:\\+" + number + "," + number + "(?:\\*[1-9])?|-" + number + "|a|[bcp]" + number + ")";
        TEXT = Pattern.compile(order + "(?:;" + order + ")*");
    }

    private record Row(int a, int b) {
        int in(int column) {
            return column == 0 ? a : b;
        }
    }

    private record Counted(int value, int rows) { }

    private record CountedPair(Row row, int rows) { }

    /** An analysis keeps the rows that it was made of, with the values of its buckets. */
    private record Seen(List<Row> rows, List<List<Counted>> commons, List<List<List<Integer>>> buckets,
                        List<CountedPair> pairs) { }

    private record All(List<Row> rows, List<Integer> settings, Seen seen, int moved) { }

    private All all = new All(List.of(), List.of(4, 2, 2, 20), null, 0);
    private final All[] slots = new All[2];
    private final Deque<All> history = new ArrayDeque<>();
    private String pad = "";

    private int changed(All next, int answer) {
        history.addLast(all);
        if (history.size() > 6) {
            history.removeFirst();
        }
        all = next;
        return answer;
    }

    // Orders work on a state and leave their answer here.
    private int answer;

    private All withSetting(All from, int setting, int value) {
        int[][] ranges = {{1, 10}, {0, 6}, {0, 6}, {0, 100}};
        if (setting < 0 || setting > 3 || value < ranges[setting][0] || value > ranges[setting][1]) {
            answer = -2;
            return from;
        }
        List<Integer> settings = new ArrayList<>(from.settings);
        answer = settings.set(setting, value);
        return new All(from.rows, settings, from.seen, from.moved);
    }

    private All withRow(All from, int a, int b) {
        if (a < 0 || a > 99 || b < 0 || b > 99) {
            answer = -2;
            return from;
        }
        if (from.rows.size() == 60) {
            answer = -4;
            return from;
        }
        List<Row> rows = new ArrayList<>(from.rows);
        rows.add(new Row(a, b));
        answer = rows.size() - 1;
        return new All(rows, from.settings, from.seen, from.seen == null ? 0 : from.moved + 1);
    }

    private All withoutRow(All from, int row) {
        if (row < 0 || row >= from.rows.size()) {
            answer = -1;
            return from;
        }
        List<Row> rows = new ArrayList<>(from.rows);
        rows.remove(row);
        answer = rows.size();
        return new All(rows, from.settings, from.seen, from.seen == null ? 0 : from.moved + 1);
    }

    private All withAnalysis(All from) {
        if (from.rows.isEmpty()) {
            answer = -5;
            return from;
        }
        answer = from.rows.size();
        return new All(from.rows, from.settings, analysisOf(from.rows, from.settings), 0);
    }

    private static Seen analysisOf(List<Row> rows, List<Integer> settings) {
        List<List<Counted>> commons = new ArrayList<>();
        List<List<List<Integer>>> buckets = new ArrayList<>();
        for (int column = 0; column < 2; column++) {
            List<Counted> common = commonOf(rows, column, settings.get(1));
            commons.add(common);
            buckets.add(bucketsOf(rows, column, common, settings.get(0)));
        }
        return new Seen(List.copyOf(rows), commons, buckets, pairsOf(rows, settings.get(2)));
    }

    private static List<Counted> commonOf(List<Row> rows, int column, int most) {
        Map<Integer, Integer> counts = new TreeMap<>();
        rows.forEach(row -> counts.merge(row.in(column), 1, Integer::sum));
        return counts.entrySet().stream().map(e -> new Counted(e.getKey(), e.getValue()))
            .filter(c -> c.rows >= 2)
            .sorted(Comparator.comparingInt(Counted::rows).reversed().thenComparingInt(Counted::value))
            .limit(most).toList();
    }

    private static List<List<Integer>> bucketsOf(List<Row> rows, int column, List<Counted> common, int most) {
        List<Integer> rest = new ArrayList<>();
        for (Row row : rows) {
            if (common.stream().noneMatch(c -> c.value == row.in(column))) {
                rest.add(row.in(column));
            }
        }
        rest.sort(null);
        List<List<Integer>> buckets = new ArrayList<>();
        for (int left = Math.min(most, rest.size()); left > 0; left--) {
            int height = (rest.size() + left - 1) / left;
            buckets.add(List.copyOf(rest.subList(0, height)));
            rest = rest.subList(height, rest.size());
        }
        return buckets;
    }

    private static List<CountedPair> pairsOf(List<Row> rows, int most) {
        return rows.stream().distinct()
            .map(row -> new CountedPair(row, (int) rows.stream().filter(row::equals).count()))
            .filter(pair -> pair.rows >= 2)
            .sorted(Comparator.comparingInt((CountedPair pair) -> -pair.rows)
                .thenComparingInt(pair -> pair.row.a).thenComparingInt(pair -> pair.row.b))
            .limit(most).toList();
    }

    int set(int setting, int value) {
        All next = withSetting(all, setting, value);
        return answer < 0 ? answer : changed(next, answer);
    }

    int insert(int a, int b) {
        All next = withRow(all, a, b);
        return answer < 0 ? answer : changed(next, answer);
    }

    int remove(int row) {
        All next = withoutRow(all, row);
        return answer < 0 ? answer : changed(next, answer);
    }

    int analyse() {
        All next = withAnalysis(all);
        return answer < 0 ? answer : changed(next, answer);
    }

    int row(int row, int column) {
        if (row < 0 || row >= all.rows.size()) {
            return -1;
        }
        return column < 0 || column > 1 ? -2 : all.rows.get(row).in(column);
    }

    int bucket(int column, int bucket, int what) {
        if (column < 0 || column > 1 || what < 0 || what > 3) {
            return -2;
        }
        if (all.seen == null || bucket < 0 || bucket >= all.seen.buckets.get(column).size()) {
            return -1;
        }
        List<Integer> values = all.seen.buckets.get(column).get(bucket);
        int[] facts = {values.get(0), values.get(values.size() - 1), values.size(),
            (int) values.stream().distinct().count()};
        return facts[what];
    }

    int common(int column, int common, int what) {
        if (column < 0 || column > 1 || what < 0 || what > 1) {
            return -2;
        }
        if (all.seen == null || common < 0 || common >= all.seen.commons.get(column).size()) {
            return -1;
        }
        Counted counted = all.seen.commons.get(column).get(common);
        return what == 0 ? counted.value : counted.rows;
    }

    int pair(int pair, int what) {
        if (what < 0 || what > 2) {
            return -2;
        }
        if (all.seen == null || pair < 0 || pair >= all.seen.pairs.size()) {
            return -1;
        }
        CountedPair counted = all.seen.pairs.get(pair);
        return what == 2 ? counted.rows : counted.row.in(what);
    }

    int count(int what) {
        Seen seen = all.seen;
        if (what < 0 || what > 14) {
            return -2;
        }
        if (what >= 9 && what <= 12) {
            return all.settings.get(what - 9);
        }
        switch (what) {
            case 0: return all.rows.size();
            case 13: return pad.length();
            case 14: return history.size();
            default:
        }
        if (seen == null) {
            return what == 3 ? -6 : 0;
        }
        switch (what) {
            case 1: return seen.rows.size();
            case 2: return all.moved;
            case 3: return 100 * all.moved > all.settings.get(3) * seen.rows.size() ? 1 : 0;
            case 4: case 5: return seen.buckets.get(what - 4).size();
            case 6: case 7: return seen.commons.get(what - 6).size();
            default: return seen.pairs.size();
        }
    }

    private static boolean wrongBounds(int low, int high) {
        return low < 0 || high > 99 || high < low;
    }

    private static int guess(Seen seen, int column, int low, int high, int what) {
        int rows = 0;
        for (Counted common : seen.commons.get(column)) {
            if (common.value >= low && common.value <= high) {
                rows += common.rows;
            }
        }
        for (List<Integer> bucket : seen.buckets.get(column)) {
            int inside = 0;
            int numbers = 0;
            for (int number = bucket.get(0); number <= bucket.get(bucket.size() - 1); number++) {
                numbers++;
                inside += number >= low && number <= high ? 1 : 0;
            }
            if (what == 0) {
                rows += bucket.size() * inside / numbers;
            } else if (what == 1 ? inside == numbers : inside > 0) {
                rows += bucket.size();
            }
        }
        return rows;
    }

    int estimate(int column, int low, int high, int what) {
        if (column < 0 || column > 1 || wrongBounds(low, high) || what < 0 || what > 4) {
            return -2;
        }
        if (what == 4) {
            return (int) all.rows.stream().filter(r -> r.in(column) >= low && r.in(column) <= high).count();
        }
        if (all.seen == null) {
            return -6;
        }
        return what < 3 ? guess(all.seen, column, low, high, what)
            : guess(all.seen, column, low, high, 0) * all.rows.size() / all.seen.rows.size();
    }

    int both(int lowA, int highA, int lowB, int highB, int what) {
        if (wrongBounds(lowA, highA) || wrongBounds(lowB, highB) || what < 0 || what > 2) {
            return -2;
        }
        if (what == 2) {
            return (int) all.rows.stream()
                .filter(r -> r.a >= lowA && r.a <= highA && r.b >= lowB && r.b <= highB).count();
        }
        if (all.seen == null) {
            return -6;
        }
        int p = 0, q = 0, r = 0, t = 0;
        for (CountedPair pair : all.seen.pairs) {
            boolean inA = pair.row.a >= lowA && pair.row.a <= highA;
            boolean inB = pair.row.b >= lowB && pair.row.b <= highB;
            p += inA && inB ? pair.rows : 0;
            q += inA ? pair.rows : 0;
            r += inB ? pair.rows : 0;
            t += pair.rows;
        }
        int n = all.seen.rows.size();
        int e = guess(all.seen, 0, lowA, highA, 0);
        int f = guess(all.seen, 1, lowB, highB, 0);
        int rows = p + (n == t ? 0 : (e > q ? e - q : 0) * (f > r ? f - r : 0) / (n - t));
        return what == 0 ? rows : rows * all.rows.size() / n;
    }

    int share(int column, int low, int high) {
        if (column < 0 || column > 1 || wrongBounds(low, high)) {
            return -2;
        }
        if (all.seen == null) {
            return -6;
        }
        return Float.floatToIntBits((float) ((double) guess(all.seen, column, low, high, 0) / all.seen.rows.size()));
    }

    long height(int column) {
        if (column < 0 || column > 1) {
            return -2;
        }
        if (all.seen == null || all.seen.buckets.get(column).isEmpty()) {
            return 0;
        }
        List<List<Integer>> buckets = all.seen.buckets.get(column);
        return Double.doubleToLongBits((double) buckets.stream().mapToInt(List::size).sum() / buckets.size());
    }

    private static int[] worstOf(Seen seen, int column) {
        int[] worst = {0, -1};
        for (int value = 0; value < 100; value++) {
            int wanted = value;
            int had = (int) seen.rows.stream().filter(row -> row.in(column) == wanted).count();
            int far = Math.abs(guess(seen, column, value, value, 0) - had);
            if (far > worst[1]) {
                worst = new int[] {value, far};
            }
        }
        return worst;
    }

    int worst(int column, int what) {
        if (column < 0 || column > 1 || what < 0 || what > 1) {
            return -2;
        }
        return all.seen == null ? -6 : worstOf(all.seen, column)[what];
    }

    int fewest(int column, int far) {
        if (column < 0 || column > 1 || far < 0 || far > 60) {
            return -2;
        }
        if (all.rows.isEmpty()) {
            return -5;
        }
        for (int buckets = 1; buckets <= 10; buckets++) {
            List<Integer> settings = new ArrayList<>(all.settings);
            settings.set(0, buckets);
            if (worstOf(analysisOf(all.rows, settings), column)[1] <= far) {
                return buckets;
            }
        }
        return -6;
    }

    int put(long characters) {
        StringBuilder text = new StringBuilder();
        boolean ended = false;
        for (int shift = 0; shift < 64; shift += 8) {
            int code = (int) (characters >> shift) & 255;
            ended = ended || code == 0;
            if (ended ? code != 0 : code < 33 || code > 126) {
                return -2;
            }
            if (!ended) {
                text.insert(0, (char) code);
            }
        }
        if (text.length() == 0) {
            return -2;
        }
        if (pad.length() + text.length() > 80) {
            return -4;
        }
        pad += text;
        return pad.length();
    }

    int wipe() {
        int length = pad.length();
        pad = "";
        return length;
    }

    int fault() {
        for (int end = 1; end <= pad.length(); end++) {
            Matcher matcher = TEXT.matcher(pad.substring(0, end));
            if (!matcher.matches() && !matcher.hitEnd()) {
                return end - 1;
            }
        }
        return TEXT.matcher(pad).matches() ? -6 : pad.length();
    }

    int carryOut() {
        if (fault() != -6) {
            return -3;
        }
        All next = all;
        int done = 0;
        for (String order : pad.split(";")) {
            String[] parts = order.substring(1).split("[,*]");
            next = follow(next, order.charAt(0), parts);
            if (answer < 0) {
                break;
            }
            done++;
        }
        pad = "";
        return changed(next, done);
    }

    private All follow(All from, char kind, String[] parts) {
        int first = kind == 'a' ? 0 : Integer.parseInt(parts[0]);
        switch (kind) {
            case '+':
                All next = from;
                int times = parts.length == 3 ? Integer.parseInt(parts[2]) : 1;
                for (int i = 0; i < times; i++) {
                    next = withRow(next, first, Integer.parseInt(parts[1]));
                }
                return next;
            case '-': return withoutRow(from, first);
            case 'a': return withAnalysis(from);
            default: return withSetting(from, "bcp".indexOf(kind), first);
        }
    }

    int undo() {
        if (history.isEmpty()) {
            return -5;
        }
        all = history.removeLast();
        return history.size();
    }

    int save(int slot) {
        if (slot < 0 || slot > 1) {
            return -2;
        }
        slots[slot] = all;
        return all.rows.size();
    }

    int restore(int slot) {
        if (slot < 0 || slot > 1) {
            return -2;
        }
        return slots[slot] == null ? -5 : changed(slots[slot], slots[slot].rows.size());
    }
}
