/**
 * A table of two columns and what an analysis remembers of it: common values, buckets of equal
 * height, pairs of values, and the estimates that are made of them.
 */
public final class EqualHeights {
    public static final int NO_SUCH = -1, BAD_VALUE = -2, BAD_TEXT = -3, TOO_MANY = -4, NOT_POSSIBLE = -5, NONE = -6;
    public static final int BUCKETS = 0, COMMON = 1, PAIRS = 2, STALE = 3;

    private static final int SETTINGS = 4;
    private static final int SLOTS = 2;
    private static final int MOST_ROWS = 60;
    private static final int VALUES = 100;
    private static final int LARGEST_VALUE = VALUES - 1;
    private static final int MOST_BUCKETS = 10;
    private static final int MOST_COMMON = 6;
    private static final int MOST_PAIRS = 6;
    private static final int MOST_STALE = 100;
    private static final int MOST_SIGNS = 80;
    private static final int MOST_UNDONE = 6;
    // A rank tells rows and values in one number; no rank is as great as this.
    private static final int ABOVE_ALL_RANKS = 1000000;
    // No sign of the pad is 0, so it can stand for the end of the text.
    private static final char END = 0;

    private final State now;
    private final State[] slots;
    private final History history;
    private final Pad pad;
    private final Reader reader;
    // What an analysis with other buckets would remember; made once, because room is not given back.
    private final ColumnFacts trial;

    public EqualHeights() {
        now = new State();
        slots = new State[SLOTS];
        history = new History();
        pad = new Pad();
        reader = new Reader(pad);
        trial = new ColumnFacts();
    }

    // ---- changes

    public int set(int setting, int value) {
        history.prepare(now);
        return recorded(now.change(setting, value));
    }

    public int insert(int a, int b) {
        history.prepare(now);
        return recorded(now.addRow(a, b));
    }

    public int remove(int row) {
        history.prepare(now);
        return recorded(now.dropRow(row));
    }

    public int analyse() {
        history.prepare(now);
        return recorded(now.makeAnalysis());
    }

    // ---- what there is

    public int row(int row, int column) {
        if (!now.table.hasRow(row)) {
            return NO_SUCH;
        }
        if (!isColumn(column)) {
            return BAD_VALUE;
        }
        return now.table.value(row, column);
    }

    public int bucket(int column, int bucket, int what) {
        if (!isColumn(column) || !isBetween(what, 0, 3)) {
            return BAD_VALUE;
        }
        return now.analysis.facts(column).tellBucket(bucket, what);
    }

    public int common(int column, int common, int what) {
        if (!isColumn(column) || !isBetween(what, 0, 1)) {
            return BAD_VALUE;
        }
        return now.analysis.facts(column).tellCommon(common, what);
    }

    public int pair(int pair, int what) {
        if (!isBetween(what, 0, 2)) {
            return BAD_VALUE;
        }
        return now.analysis.pairs.tellPair(pair, what);
    }

    public int count(int what) {
        Analysis analysis = now.analysis;
        switch (what) {
            case 0: return now.table.size;
            case 1: return analysis.rows;
            case 2: return analysis.changes;
            case 3: return tellStale();
            case 4: return analysis.facts(0).buckets;
            case 5: return analysis.facts(1).buckets;
            case 6: return analysis.facts(0).commons;
            case 7: return analysis.facts(1).commons;
            case 8: return analysis.pairs.pairs;
            case 9: return now.setting(BUCKETS);
            case 10: return now.setting(COMMON);
            case 11: return now.setting(PAIRS);
            case 12: return now.setting(STALE);
            case 13: return pad.length;
            case 14: return history.held;
            default: return BAD_VALUE;
        }
    }

    private int tellStale() {
        if (!now.analysis.isMade()) {
            return NONE;
        }
        return now.analysis.isStale(now.setting(STALE)) ? 1 : 0;
    }

    // ---- estimates; nothing changes

    public int estimate(int column, int low, int high, int what) {
        if (!isColumn(column) || !areBounds(low, high) || !isBetween(what, 0, 4)) {
            return BAD_VALUE;
        }
        if (what == 4) {
            return now.table.rowsInside(column, low, high);
        }
        if (!now.analysis.isMade()) {
            return NONE;
        }
        ColumnFacts facts = now.analysis.facts(column);
        switch (what) {
            case 0: return facts.guess(low, high);
            case 1: return facts.least(low, high);
            case 2: return facts.most(low, high);
            default: return now.scale(facts.guess(low, high));
        }
    }

    public int both(int lowA, int highA, int lowB, int highB, int what) {
        if (!areBounds(lowA, highA) || !areBounds(lowB, highB) || !isBetween(what, 0, 2)) {
            return BAD_VALUE;
        }
        if (what == 2) {
            return now.table.rowsInsideBoth(lowA, highA, lowB, highB);
        }
        if (!now.analysis.isMade()) {
            return NONE;
        }
        int guess = now.analysis.guessBoth(lowA, highA, lowB, highB);
        return what == 0 ? guess : now.scale(guess);
    }

    public int share(int column, int low, int high) {
        if (!isColumn(column) || !areBounds(low, high)) {
            return BAD_VALUE;
        }
        int rows = now.analysis.rows;
        if (rows <= 0) {
            return NONE;
        }
        double share = (double) now.analysis.facts(column).guess(low, high) / (double) rows;
        return Bits.ofFloat((float) share);
    }

    public long height(int column) {
        if (!isColumn(column)) {
            return BAD_VALUE;
        }
        ColumnFacts facts = now.analysis.facts(column);
        if (facts.buckets <= 0) {
            return 0;
        }
        return Bits.ofDouble((double) facts.rowsOfBuckets() / (double) facts.buckets);
    }

    public int worst(int column, int what) {
        if (!isColumn(column) || !isBetween(what, 0, 1)) {
            return BAD_VALUE;
        }
        if (!now.analysis.isMade()) {
            return NONE;
        }
        ColumnFacts facts = now.analysis.facts(column);
        int value = facts.worstValue();
        return what == 0 ? value : facts.miss(value);
    }

    public int fewest(int column, int far) {
        if (!isColumn(column) || !isBetween(far, 0, MOST_ROWS)) {
            return BAD_VALUE;
        }
        if (now.table.size == 0) {
            return NOT_POSSIBLE;
        }
        for (int buckets = 1; buckets <= MOST_BUCKETS; buckets++) {
            trial.learn(now.table, column, now.setting(COMMON), buckets);
            if (trial.miss(trial.worstValue()) <= far) {
                return buckets;
            }
        }
        return NONE;
    }

    // ---- texts

    public int put(long characters) {
        return pad.append(characters);
    }

    public int wipe() {
        return pad.clear();
    }

    public int fault() {
        return reader.findFault();
    }

    public int carryOut() {
        if (reader.findFault() != NONE) {
            return BAD_TEXT;
        }
        history.prepare(now);
        int done = 0;
        reader.start();
        while (done < MOST_SIGNS && reader.readOrder() && followOrder() >= 0) {
            done++;
            reader.passSign(';');
        }
        pad.clear();
        return recorded(done);
    }

    private int followOrder() {
        switch (reader.kind) {
            case '+': return now.addRows(reader.first, reader.second, reader.times);
            case '-': return now.dropRow(reader.first);
            case 'a': return now.makeAnalysis();
            case 'b': return now.change(BUCKETS, reader.first);
            case 'c': return now.change(COMMON, reader.first);
            case 'p': return now.change(PAIRS, reader.first);
            default: return BAD_TEXT;
        }
    }

    // ---- undo, saving

    public int undo() {
        if (history.held == 0) {
            return NOT_POSSIBLE;
        }
        history.bringBack(now);
        return history.held;
    }

    public int save(int slot) {
        if (slot < 0 || slot >= slots.length) {
            return BAD_VALUE;
        }
        State saved = slots[slot];
        if (saved == null) {
            saved = new State();
            slots[slot] = saved;
        }
        saved.copyFrom(now);
        return now.table.size;
    }

    public int restore(int slot) {
        if (slot < 0 || slot >= slots.length) {
            return BAD_VALUE;
        }
        State saved = slots[slot];
        if (saved == null) {
            return NOT_POSSIBLE;
        }
        history.prepare(now);
        now.copyFrom(saved);
        return recorded(now.table.size);
    }

    /** Keeps the prepared state if the answer of a change is not an error. */
    private int recorded(int answer) {
        if (answer >= 0) {
            history.keep();
        }
        return answer;
    }

    // ---- tests of arguments, and copies

    private static boolean isBetween(int number, int low, int high) {
        return low <= number && number <= high;
    }

    private static boolean isColumn(int column) {
        return column == 0 || column == 1;
    }

    private static boolean isValue(int value) {
        return isBetween(value, 0, LARGEST_VALUE);
    }

    private static boolean areBounds(int low, int high) {
        return isValue(low) && isValue(high) && low <= high;
    }

    private static void copyNumbers(int[] from, int[] to) {
        for (int i = 0; i < from.length && i < to.length; i++) {
            to[i] = from[i];
        }
    }

    /** Everything that undo() and restore() bring back. */
    private static final class State {
        private final int[] settings = {4, 2, 2, 20};
        private final Table table = new Table();
        private final Analysis analysis = new Analysis();

        /** Answers 0 for a setting that there is not. */
        int setting(int setting) {
            return isBetween(setting, 0, SETTINGS - 1) ? settings[setting] : 0;
        }

        int change(int setting, int value) {
            if (!isBetween(setting, 0, SETTINGS - 1) || !isInRange(setting, value)) {
                return BAD_VALUE;
            }
            int previous = settings[setting];
            settings[setting] = value;
            return previous;
        }

        private static boolean isInRange(int setting, int value) {
            switch (setting) {
                case BUCKETS: return isBetween(value, 1, MOST_BUCKETS);
                case COMMON: return isBetween(value, 0, MOST_COMMON);
                case PAIRS: return isBetween(value, 0, MOST_PAIRS);
                case STALE: return isBetween(value, 0, MOST_STALE);
                default: return false;
            }
        }

        int addRow(int a, int b) {
            if (!isValue(a) || !isValue(b)) {
                return BAD_VALUE;
            }
            if (table.isFull()) {
                return TOO_MANY;
            }
            table.add(a, b);
            analysis.noteChange();
            return table.size - 1;
        }

        /** Answers what the last addRow() did: the rows before it stay, even if it had no room. */
        int addRows(int a, int b, int times) {
            int answer = BAD_VALUE;
            for (int added = 0; added < times; added++) {
                answer = addRow(a, b);
            }
            return answer;
        }

        int dropRow(int row) {
            if (!table.hasRow(row)) {
                return NO_SUCH;
            }
            table.drop(row);
            analysis.noteChange();
            return table.size;
        }

        int makeAnalysis() {
            if (table.size == 0) {
                return NOT_POSSIBLE;
            }
            analysis.learn(table, setting(BUCKETS), setting(COMMON), setting(PAIRS));
            return analysis.rows;
        }

        int scale(int guess) {
            return analysis.rows > 0 ? guess * table.size / analysis.rows : 0;
        }

        void copyFrom(State other) {
            copyNumbers(other.settings, settings);
            table.copyFrom(other.table);
            analysis.copyFrom(other.analysis);
        }
    }

    /** The rows of now. The size never leaves 0 to MOST_ROWS, and every value is 0 to LARGEST_VALUE. */
    private static final class Table {
        private final int[] a = new int[MOST_ROWS];
        private final int[] b = new int[MOST_ROWS];
        private int size;

        boolean isFull() {
            return size >= MOST_ROWS;
        }

        boolean hasRow(int row) {
            return row >= 0 && row < size;
        }

        int value(int row, int column) {
            if (row < 0 || row >= size) {
                return 0;
            }
            return column == 0 ? a[row] : b[row];
        }

        void add(int valueA, int valueB) {
            if (size < 0 || isFull()) {
                return;
            }
            a[size] = valueA;
            b[size] = valueB;
            size++;
        }

        void drop(int row) {
            if (!hasRow(row)) {
                return;
            }
            for (int i = row; i + 1 < size; i++) {
                a[i] = a[i + 1];
                b[i] = b[i + 1];
            }
            size--;
        }

        int rowsInside(int column, int low, int high) {
            return column == 0
                ? rowsInsideBoth(low, high, 0, LARGEST_VALUE)
                : rowsInsideBoth(0, LARGEST_VALUE, low, high);
        }

        int rowsInsideBoth(int lowA, int highA, int lowB, int highB) {
            int inside = 0;
            for (int row = 0; row < size; row++) {
                if (isBetween(a[row], lowA, highA) && isBetween(b[row], lowB, highB)) {
                    inside++;
                }
            }
            return inside;
        }

        /** How many rows have both values of a row. */
        int rowsLike(int row) {
            if (row < 0 || row >= size) {
                return 0;
            }
            int alike = 0;
            for (int i = 0; i < size; i++) {
                if (a[i] == a[row] && b[i] == b[row]) {
                    alike++;
                }
            }
            return alike;
        }

        void copyFrom(Table other) {
            copyNumbers(other.a, a);
            copyNumbers(other.b, b);
            size = other.size;
        }
    }

    /** What is remembered of the analysed rows; it has no rows as long as there is no analysis. */
    private static final class Analysis {
        private final ColumnFacts a = new ColumnFacts();
        private final ColumnFacts b = new ColumnFacts();
        private final PairFacts pairs = new PairFacts();
        private int rows;
        private int changes;

        boolean isMade() {
            return rows > 0;
        }

        ColumnFacts facts(int column) {
            return column == 0 ? a : b;
        }

        void learn(Table table, int mostBuckets, int mostCommon, int mostPairs) {
            a.learn(table, 0, mostCommon, mostBuckets);
            b.learn(table, 1, mostCommon, mostBuckets);
            pairs.learn(table, mostPairs);
            rows = table.size;
            changes = 0;
        }

        void noteChange() {
            if (isMade()) {
                changes++;
            }
        }

        boolean isStale(int stale) {
            return 100 * changes > stale * rows;
        }

        int guessBoth(int lowA, int highA, int lowB, int highB) {
            int known = pairs.rowsInside(lowA, highA, lowB, highB);
            int others = rows - pairs.rowsInside(0, LARGEST_VALUE, 0, LARGEST_VALUE);
            if (others <= 0) {
                return known;
            }
            int knownA = pairs.rowsInside(lowA, highA, 0, LARGEST_VALUE);
            int knownB = pairs.rowsInside(0, LARGEST_VALUE, lowB, highB);
            int otherA = Math.max(a.guess(lowA, highA) - knownA, 0);
            int otherB = Math.max(b.guess(lowB, highB) - knownB, 0);
            return known + otherA * otherB / others;
        }

        void copyFrom(Analysis other) {
            a.copyFrom(other.a);
            b.copyFrom(other.b);
            pairs.copyFrom(other.pairs);
            rows = other.rows;
            changes = other.changes;
        }
    }

    /** Common values and buckets of one column, and how many analysed rows had each value. */
    private static final class ColumnFacts {
        private final int[] had = new int[VALUES];
        private final int[] commonValue = new int[MOST_COMMON];
        private final int[] commonRows = new int[MOST_COMMON];
        private int commons;
        private final int[] lowest = new int[MOST_BUCKETS];
        private final int[] highest = new int[MOST_BUCKETS];
        private final int[] bucketRows = new int[MOST_BUCKETS];
        private final int[] unlike = new int[MOST_BUCKETS];
        private int buckets;

        void learn(Table table, int column, int mostCommon, int mostBuckets) {
            countValues(table, column);
            chooseCommon(mostCommon);
            cutBuckets(table.size, mostBuckets);
        }

        private void countValues(Table table, int column) {
            for (int value = 0; value < VALUES; value++) {
                had[value] = 0;
            }
            for (int row = 0; row < table.size; row++) {
                int value = table.value(row, column);
                if (value >= 0 && value < VALUES) {
                    had[value]++;
                }
            }
        }

        private void chooseCommon(int mostCommon) {
            commons = 0;
            int last = ABOVE_ALL_RANKS;
            for (int chosen = 0; chosen < mostCommon && chosen < MOST_COMMON; chosen++) {
                last = nextRank(last);
                if (last == 0) {
                    return;
                }
                commonValue[chosen] = LARGEST_VALUE - last % VALUES;
                commonRows[chosen] = last / VALUES;
                commons++;
            }
        }

        /** The greatest rank below another one, 0 if there is none. More rows rank higher, then lower values. */
        private int nextRank(int above) {
            int next = 0;
            for (int value = 0; value < VALUES; value++) {
                int rank = had[value] * VALUES + LARGEST_VALUE - value;
                if (had[value] >= 2 && rank < above && rank > next) {
                    next = rank;
                }
            }
            return next;
        }

        private boolean isCommon(int value) {
            for (int i = 0; i < commons; i++) {
                if (commonValue[i] == value) {
                    return true;
                }
            }
            return false;
        }

        private void cutBuckets(int rows, int mostBuckets) {
            int rest = rows;
            for (int i = 0; i < commons; i++) {
                rest -= commonRows[i];
            }
            buckets = Math.min(Math.min(mostBuckets, MOST_BUCKETS), rest);
            int bucket = -1;
            int room = 0;
            for (int value = 0; value < VALUES; value++) {
                int left = isCommon(value) ? 0 : had[value];
                for (int row = 0; row < left; row++) {
                    if (room == 0) {
                        bucket++;
                        room = fullHeight(bucket, rest);
                        startBucket(bucket, value);
                    }
                    addToBucket(bucket, value);
                    room--;
                }
            }
        }

        private int fullHeight(int bucket, int rest) {
            if (buckets <= 0) {
                return 0;
            }
            return rest / buckets + (bucket < rest % buckets ? 1 : 0);
        }

        private void startBucket(int bucket, int value) {
            if (bucket < 0 || bucket >= buckets) {
                return;
            }
            lowest[bucket] = value;
            highest[bucket] = value;
            bucketRows[bucket] = 0;
            unlike[bucket] = 1;
        }

        /** Values come in ascending order. */
        private void addToBucket(int bucket, int value) {
            if (bucket < 0 || bucket >= buckets) {
                return;
            }
            if (value != highest[bucket]) {
                unlike[bucket]++;
            }
            highest[bucket] = value;
            bucketRows[bucket]++;
        }

        int tellCommon(int common, int what) {
            if (common < 0 || common >= commons) {
                return NO_SUCH;
            }
            return what == 0 ? commonValue[common] : commonRows[common];
        }

        int tellBucket(int bucket, int what) {
            if (bucket < 0 || bucket >= buckets) {
                return NO_SUCH;
            }
            switch (what) {
                case 0: return lowest[bucket];
                case 1: return highest[bucket];
                case 2: return bucketRows[bucket];
                default: return unlike[bucket];
            }
        }

        int rowsOfBuckets() {
            int rows = 0;
            for (int i = 0; i < buckets; i++) {
                rows += bucketRows[i];
            }
            return rows;
        }

        private int rowsOfCommon(int low, int high) {
            int rows = 0;
            for (int i = 0; i < commons; i++) {
                rows += isBetween(commonValue[i], low, high) ? commonRows[i] : 0;
            }
            return rows;
        }

        int guess(int low, int high) {
            int rows = rowsOfCommon(low, high);
            for (int i = 0; i < buckets; i++) {
                int width = highest[i] - lowest[i] + 1;
                int inside = Math.min(highest[i], high) - Math.max(lowest[i], low) + 1;
                if (width > 0 && inside > 0) {
                    rows += bucketRows[i] * inside / width;
                }
            }
            return rows;
        }

        int least(int low, int high) {
            int rows = rowsOfCommon(low, high);
            for (int i = 0; i < buckets; i++) {
                rows += low <= lowest[i] && highest[i] <= high ? bucketRows[i] : 0;
            }
            return rows;
        }

        int most(int low, int high) {
            int rows = rowsOfCommon(low, high);
            for (int i = 0; i < buckets; i++) {
                rows += low <= highest[i] && lowest[i] <= high ? bucketRows[i] : 0;
            }
            return rows;
        }

        /** How far the estimate of a value is from the rows that had it; 0 for what is no value. */
        int miss(int value) {
            return isValue(value) ? Math.abs(guess(value, value) - had[value]) : 0;
        }

        int worstValue() {
            int worst = 0;
            int farthest = miss(0);
            for (int value = 1; value < VALUES; value++) {
                int far = miss(value);
                if (far > farthest) {
                    worst = value;
                    farthest = far;
                }
            }
            return worst;
        }

        void copyFrom(ColumnFacts other) {
            copyNumbers(other.had, had);
            copyNumbers(other.commonValue, commonValue);
            copyNumbers(other.commonRows, commonRows);
            commons = other.commons;
            copyNumbers(other.lowest, lowest);
            copyNumbers(other.highest, highest);
            copyNumbers(other.bucketRows, bucketRows);
            copyNumbers(other.unlike, unlike);
            buckets = other.buckets;
        }
    }

    /** The pairs of values that the most analysed rows had. */
    private static final class PairFacts {
        private final int[] valueA = new int[MOST_PAIRS];
        private final int[] valueB = new int[MOST_PAIRS];
        private final int[] pairRows = new int[MOST_PAIRS];
        private int pairs;

        void learn(Table table, int mostPairs) {
            pairs = 0;
            int last = ABOVE_ALL_RANKS;
            for (int chosen = 0; chosen < mostPairs && chosen < MOST_PAIRS; chosen++) {
                last = nextRank(table, last);
                if (last == 0) {
                    return;
                }
                valueA[chosen] = LARGEST_VALUE - last / VALUES % VALUES;
                valueB[chosen] = LARGEST_VALUE - last % VALUES;
                pairRows[chosen] = last / VALUES / VALUES;
                pairs++;
            }
        }

        /** As for common values: more rows rank higher, then lower values of the column 0, then of the column 1. */
        private static int nextRank(Table table, int above) {
            int next = 0;
            for (int row = 0; row < table.size; row++) {
                int rows = table.rowsLike(row);
                int rankOfA = LARGEST_VALUE - table.value(row, 0);
                int rankOfB = LARGEST_VALUE - table.value(row, 1);
                int rank = (rows * VALUES + rankOfA) * VALUES + rankOfB;
                if (rows >= 2 && rank < above && rank > next) {
                    next = rank;
                }
            }
            return next;
        }

        int tellPair(int pair, int what) {
            if (pair < 0 || pair >= pairs) {
                return NO_SUCH;
            }
            switch (what) {
                case 0: return valueA[pair];
                case 1: return valueB[pair];
                default: return pairRows[pair];
            }
        }

        int rowsInside(int lowA, int highA, int lowB, int highB) {
            int rows = 0;
            for (int i = 0; i < pairs; i++) {
                if (isBetween(valueA[i], lowA, highA) && isBetween(valueB[i], lowB, highB)) {
                    rows += pairRows[i];
                }
            }
            return rows;
        }

        void copyFrom(PairFacts other) {
            copyNumbers(other.valueA, valueA);
            copyNumbers(other.valueB, valueB);
            copyNumbers(other.pairRows, pairRows);
            pairs = other.pairs;
        }
    }

    /** The states before the latest changes, in a ring with one place more: there the next state is prepared. */
    private static final class History {
        private static final int PLACES = MOST_UNDONE + 1;

        private final State[] ring = new State[PLACES];
        private int next;
        private int held;

        /** Holds a state ready; it is forgotten unless keep() follows. */
        void prepare(State state) {
            if (next < 0 || next >= ring.length) {
                return;
            }
            State place = ring[next];
            if (place == null) {
                place = new State();
                ring[next] = place;
            }
            place.copyFrom(state);
        }

        void keep() {
            next = (next + 1) % PLACES;
            held = Math.min(held + 1, MOST_UNDONE);
        }

        void bringBack(State state) {
            int latest = (next + PLACES - 1) % PLACES;
            if (held <= 0 || latest < 0 || latest >= ring.length) {
                return;
            }
            State place = ring[latest];
            if (place == null) {
                return;
            }
            state.copyFrom(place);
            next = latest;
            held--;
        }
    }

    /** The text of orders. */
    private static final class Pad {
        private static final int SIGNS_OF_A_NUMBER = 8;
        private static final int FIRST_SIGN = 33;
        private static final int LAST_SIGN = 126;

        private final char[] signs = new char[MOST_SIGNS];
        private int length;

        int append(long characters) {
            int more = signsIn(characters);
            if (more == 0) {
                return BAD_VALUE;
            }
            if (length + more > MOST_SIGNS) {
                return TOO_MANY;
            }
            long rest = characters;
            for (int i = length + more - 1; i >= length && i >= 0; i--) {
                signs[i] = (char) (rest & 255);
                rest >>>= 8;
            }
            length += more;
            return length;
        }

        /** How many characters a number gives, 0 if it does not give characters alone. */
        private static int signsIn(long characters) {
            int signs = 0;
            long rest = characters;
            for (int i = 0; i < SIGNS_OF_A_NUMBER && rest != 0; i++) {
                int sign = (int) (rest & 255);
                if (!isBetween(sign, FIRST_SIGN, LAST_SIGN)) {
                    return 0;
                }
                signs++;
                rest >>>= 8;
            }
            return signs;
        }

        char signAt(int index) {
            return index >= 0 && index < length ? signs[index] : END;
        }

        int clear() {
            int before = length;
            length = 0;
            return before;
        }
    }

    /** Reads the pad from left to right and stops at the first character that cannot stand at its place. */
    private static final class Reader {
        private static final int NO_DIGIT = -1;

        private final Pad pad;
        private int at;
        private char kind;
        private int first;
        private int second;
        private int times;

        Reader(Pad text) {
            pad = text;
        }

        void start() {
            at = 0;
        }

        int findFault() {
            start();
            for (int orders = 0; orders < MOST_SIGNS; orders++) {
                if (!readOrder()) {
                    return at;
                }
                if (at == pad.length) {
                    return NONE;
                }
                if (!passSign(';')) {
                    return at;
                }
            }
            return at;
        }

        boolean readOrder() {
            kind = pad.signAt(at);
            switch (kind) {
                case '+':
                    at++;
                    return readRow();
                case 'a':
                    at++;
                    return true;
                case '-':
                case 'b':
                case 'c':
                case 'p':
                    at++;
                    first = readNumber();
                    return first >= 0;
                default:
                    return false;
            }
        }

        private boolean readRow() {
            first = readNumber();
            if (first < 0 || !passSign(',')) {
                return false;
            }
            second = readNumber();
            return second >= 0 && readTimes();
        }

        private boolean readTimes() {
            times = 1;
            if (!passSign('*')) {
                return true;
            }
            if (pad.signAt(at) == '0') {
                return false;
            }
            times = readDigit();
            return times > 0;
        }

        /** A second digit belongs to the number only if the first one is not 0; a third one never does. */
        private int readNumber() {
            int tens = readDigit();
            if (tens <= 0) {
                return tens;
            }
            int ones = readDigit();
            return ones < 0 ? tens : tens * 10 + ones;
        }

        /** Answers NO_DIGIT, and stays where it is, if there is none. */
        private int readDigit() {
            int digit = pad.signAt(at) - '0';
            if (digit < 0 || digit > 9) {
                return NO_DIGIT;
            }
            at++;
            return digit;
        }

        boolean passSign(char sign) {
            if (pad.signAt(at) != sign) {
                return false;
            }
            at++;
            return true;
        }
    }

    /** The bits of floating numbers, without the library. */
    private static final class Bits {
        private static final int MOST_STEPS = 64;

        static int ofFloat(float number) {
            return (int) bits((double) number, 127, 23);
        }

        static long ofDouble(double number) {
            return bits(number, 1023, 52);
        }

        /** For 0, and for numbers that are neither negative nor further than MOST_STEPS halvings from 1. */
        private static long bits(double number, int bias, int fractionBits) {
            if (number <= 0.0) {
                return 0;
            }
            long exponent = bias;
            double scaled = number;
            for (int steps = 0; steps < MOST_STEPS && scaled < 1.0; steps++) {
                scaled *= 2.0;
                exponent--;
            }
            for (int steps = 0; steps < MOST_STEPS && scaled >= 2.0; steps++) {
                scaled /= 2.0;
                exponent++;
            }
            double fraction = (scaled - 1.0) * (double) (1L << fractionBits);
            return (exponent << fractionBits) + (long) fraction;
        }
    }
}
