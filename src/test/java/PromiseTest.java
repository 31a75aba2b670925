/** What each promise asks, written out by hand: ordinary inputs, the edges that the document names, wrong inputs. */
public final class PromiseTest extends Tables {
    private static final Check CHECK = new Check("PromiseTest");

    private static void due(String call, long got, long want) {
        CHECK.due(call, got, want);
    }

    public static void main(String[] args) {
        newObject();
        constants();
        set();
        insert();
        remove();
        analyse();
        row();
        bucket();
        bucketsOfEqualHeight();
        common();
        pair();
        count();
        stale();
        estimate();
        both();
        share();
        height();
        worst();
        fewest();
        put();
        wipe();
        fault();
        carryOut();
        carryOutStopsAtErrors();
        undo();
        undoKeepsPadAndSlots();
        save();
        restore();
        restoreOfEverything();
        CHECK.end();
    }

    private static void newObject() {
        EqualHeights x = new EqualHeights();
        int[] first = {0, 0, 0, -6, 0, 0, 0, 0, 0, 4, 2, 2, 20, 0, 0};
        for (int what = 0; what < first.length; what++) {
            due("new, count(" + what + ")", x.count(what), first[what]);
        }
        due("new, row", x.row(0, 0), -1);
        due("new, bucket", x.bucket(0, 0, 0), -1);
        due("new, common", x.common(1, 0, 0), -1);
        due("new, pair", x.pair(0, 0), -1);
        due("new, undo", x.undo(), -5);
        due("new, analyse", x.analyse(), -5);
        due("new, restore(0)", x.restore(0), -5);
        due("new, restore(1)", x.restore(1), -5);
        due("new, fault", x.fault(), 0);
        due("new, wipe", x.wipe(), 0);
    }

    private static void constants() {
        due("NO_SUCH", EqualHeights.NO_SUCH, -1);
        due("BAD_VALUE", EqualHeights.BAD_VALUE, -2);
        due("BAD_TEXT", EqualHeights.BAD_TEXT, -3);
        due("TOO_MANY", EqualHeights.TOO_MANY, -4);
        due("NOT_POSSIBLE", EqualHeights.NOT_POSSIBLE, -5);
        due("NONE", EqualHeights.NONE, -6);
        due("BUCKETS", EqualHeights.BUCKETS, 0);
        due("COMMON", EqualHeights.COMMON, 1);
        due("PAIRS", EqualHeights.PAIRS, 2);
        due("STALE", EqualHeights.STALE, 3);
    }

    private static void set() {
        int[] least = {1, 0, 0, 0};
        int[] greatest = {10, 6, 6, 100};
        int[] first = {4, 2, 2, 20};
        for (int setting = 0; setting < 4; setting++) {
            EqualHeights x = new EqualHeights();
            due("set below", x.set(setting, least[setting] - 1), -2);
            due("set above", x.set(setting, greatest[setting] + 1), -2);
            due("set far below", x.set(setting, MIN), -2);
            due("set far above", x.set(setting, MAX), -2);
            due("nothing recorded", x.count(14), 0);
            due("set least", x.set(setting, least[setting]), first[setting]);
            due("set greatest", x.set(setting, greatest[setting]), least[setting]);
            due("set the same", x.set(setting, greatest[setting]), greatest[setting]);
            due("count setting", x.count(9 + setting), greatest[setting]);
            due("each recorded", x.count(14), 3);
        }
        EqualHeights x = new EqualHeights();
        due("set(4, 1)", x.set(4, 1), -2);
        due("set(-1, 1)", x.set(-1, 1), -2);
        due("set(MIN, 1)", x.set(MIN, 1), -2);
        due("set(MAX, 1)", x.set(MAX, 1), -2);
        x = tableOf(1, 1, 2, 3, 4, 5);
        x.analyse();
        x.set(0, 1);
        x.set(1, 0);
        x.set(2, 0);
        due("set: buckets stay", x.count(4), 4);
        due("set: common values stay", x.count(6), 1);
        due("set is no coming and going", x.count(2), 0);
    }

    private static void insert() {
        EqualHeights x = new EqualHeights();
        due("insert(0, 99)", x.insert(0, 99), 0);
        due("insert(99, 0)", x.insert(99, 0), 1);
        due("row(0, 0)", x.row(0, 0), 0);
        due("row(0, 1)", x.row(0, 1), 99);
        due("row(1, 0)", x.row(1, 0), 99);
        due("row(1, 1)", x.row(1, 1), 0);
        int[][] wrong = {{-1, 0}, {0, -1}, {100, 0}, {0, 100}, {MIN, 0}, {0, MAX}};
        for (int[] values : wrong) {
            due("insert of wrong values", x.insert(values[0], values[1]), -2);
        }
        due("nothing came", x.count(0), 2);
        due("two are recorded", x.count(14), 2);
        for (int row = 2; row < 60; row++) {
            due("insert no. " + row, x.insert(row, row), row);
        }
        due("insert no. 60", x.insert(1, 1), -4);
        due("wrong before too many", x.insert(100, 1), -2);
        due("still 60", x.count(0), 60);
        due("row 59", x.row(59, 1), 59);
        due("remove(59)", x.remove(59), 59);
        due("room again", x.insert(7, 8), 59);
    }

    private static void remove() {
        EqualHeights x = tableOf(10, 11, 12, 13);
        due("remove(4)", x.remove(4), -1);
        due("remove(-1)", x.remove(-1), -1);
        due("remove(MIN)", x.remove(MIN), -1);
        due("remove(MAX)", x.remove(MAX), -1);
        due("four recorded", x.count(14), 4);
        due("remove(1)", x.remove(1), 3);
        due("those ahead stay", x.row(0, 0), 10);
        due("those behind move up", x.row(1, 0), 12);
        due("with both values", x.row(1, 1), 2);
        due("the last one too", x.row(2, 0), 13);
        due("one fewer", x.row(3, 0), -1);
        due("remove the last", x.remove(2), 2);
        due("remove the first", x.remove(0), 1);
        due("what is left", x.row(0, 0), 12);
        due("remove the only one", x.remove(0), 0);
        due("remove of none", x.remove(0), -1);
    }

    private static void analyse() {
        EqualHeights x = tableOf(1, 2, 3);
        due("analyse", x.analyse(), 3);
        due("analysed rows", x.count(1), 3);
        x.insert(4, 4);
        due("remembered", x.count(1), 3);
        due("not of the new row", x.estimate(0, 4, 4, 2), 0);
        due("analyse again", x.analyse(), 4);
        due("now it is", x.estimate(0, 4, 4, 2), 1);
        due("came and went", x.count(2), 0);
        for (int row = 0; row < 4; row++) {
            x.remove(0);
        }
        int recorded = x.count(14);
        due("analyse without rows", x.analyse(), -5);
        due("the old one stays", x.count(1), 4);
        due("it counts", x.count(2), 4);
        due("nothing recorded", x.count(14), recorded);
        due("scaled to no rows", x.estimate(0, 0, 99, 3), 0);
        due("unscaled", x.estimate(0, 0, 99, 0), 4);
    }

    private static void row() {
        EqualHeights x = tableOf(50, 60);
        due("row(1, 0)", x.row(1, 0), 60);
        due("row(1, 1)", x.row(1, 1), 1);
        due("row(2, 0)", x.row(2, 0), -1);
        due("row(-1, 0)", x.row(-1, 0), -1);
        due("row(MAX, 0)", x.row(MAX, 0), -1);
        due("row(MIN, 0)", x.row(MIN, 0), -1);
        due("row(0, 2)", x.row(0, 2), -2);
        due("row(0, -1)", x.row(0, -1), -2);
        due("no such row comes first", x.row(2, 2), -1);
    }

    private static void bucket() {
        EqualHeights x = tableOf(30, 10, 20, 40, 50, 60, 70, 70, 70);
        x.set(0, 3);
        x.set(1, 1);
        x.analyse();
        int[][] facts = {{10, 20, 2, 2}, {30, 40, 2, 2}, {50, 60, 2, 2}};
        for (int bucket = 0; bucket < 3; bucket++) {
            for (int what = 0; what < 4; what++) {
                due("bucket(0, " + bucket + ", " + what + ")", x.bucket(0, bucket, what), facts[bucket][what]);
            }
        }
        due("column 1", x.bucket(1, 2, 1), 8);
        due("bucket 3", x.bucket(0, 3, 0), -1);
        due("bucket -1", x.bucket(0, -1, 0), -1);
        due("bucket MAX", x.bucket(0, MAX, 0), -1);
        due("bucket MIN", x.bucket(0, MIN, 0), -1);
        due("column 2", x.bucket(2, 0, 0), -2);
        due("column -1", x.bucket(-1, 0, 0), -2);
        due("what 4", x.bucket(0, 0, 4), -2);
        due("what -1", x.bucket(0, 0, -1), -2);
        due("bad value comes first", x.bucket(0, 99, 4), -2);
        EqualHeights none = new EqualHeights();
        due("bad value without an analysis", none.bucket(2, 0, 0), -2);
        due("no bucket without an analysis", none.bucket(0, 0, 0), -1);
    }

    private static void bucketsOfEqualHeight() {
        EqualHeights x = tableOf(1, 2, 3, 4, 5, 6, 7, 8, 9, 10, 11);
        int[] rows = {3, 3, 3, 2};
        int[] lowest = {1, 4, 7, 10};
        x.analyse();
        for (int bucket = 0; bucket < 4; bucket++) {
            due("rows of bucket " + bucket, x.bucket(0, bucket, 2), rows[bucket]);
            due("lowest of bucket " + bucket, x.bucket(0, bucket, 0), lowest[bucket]);
        }
        EqualHeights few = tableOf(9, 5, 7);
        few.set(0, 10);
        few.analyse();
        due("as many buckets as rows", few.count(4), 3);
        due("the middle one", few.bucket(0, 1, 0), 7);
        due("one row each", few.bucket(0, 2, 2), 1);
        EqualHeights alike = tableOf(5, 5, 5, 5, 6, 6);
        alike.set(1, 0);
        alike.set(0, 2);
        alike.analyse();
        due("a value may be cut", alike.bucket(0, 0, 1), 5);
        due("first bucket, unlike", alike.bucket(0, 0, 3), 1);
        due("second bucket, lowest", alike.bucket(0, 1, 0), 5);
        due("second bucket, unlike", alike.bucket(0, 1, 3), 2);
        EqualHeights common = tableOf(5, 5, 6, 6, 6);
        common.analyse();
        due("no buckets if all are common", common.count(4), 0);
        due("no bucket", common.bucket(0, 0, 0), -1);
        EqualHeights around = tableOf(5, 1, 5, 9, 5);
        around.set(0, 1);
        around.set(1, 1);
        around.analyse();
        due("common rows are in no bucket", around.bucket(0, 0, 2), 2);
        due("but a bucket goes across them", around.bucket(0, 0, 1), 9);
    }

    private static void common() {
        EqualHeights x = tableOf(9, 9, 3, 3, 7, 7, 7, 1);
        x.analyse();
        due("most rows first", x.common(0, 0, 0), 7);
        due("its rows", x.common(0, 0, 1), 3);
        due("then the lowest one", x.common(0, 1, 0), 3);
        due("its rows", x.common(0, 1, 1), 2);
        due("only as many as COMMON tells", x.common(0, 2, 0), -1);
        due("count", x.count(6), 2);
        due("none of column 1", x.common(1, 0, 0), -1);
        x.set(1, 6);
        x.analyse();
        due("the third one", x.common(0, 2, 0), 9);
        due("only with two rows", x.common(0, 3, 0), -1);
        due("common -1", x.common(0, -1, 0), -1);
        due("common MAX", x.common(0, MAX, 0), -1);
        due("common MIN", x.common(0, MIN, 0), -1);
        due("column 2", x.common(2, 0, 0), -2);
        due("column -1", x.common(-1, 0, 0), -2);
        due("what 2", x.common(0, 0, 2), -2);
        due("what -1", x.common(0, 0, -1), -2);
        due("bad value comes first", x.common(0, 9, 2), -2);
        x.set(1, 0);
        x.analyse();
        due("none if COMMON is 0", x.count(6), 0);
        EqualHeights edges = tableOf(99, 99, 0, 0);
        edges.analyse();
        due("0 can be common", edges.common(0, 0, 0), 0);
        due("99 can be common", edges.common(0, 1, 0), 99);
        EqualHeights six = tableOf(6, 6, 5, 5, 4, 4, 3, 3, 2, 2, 1, 1, 0, 0);
        six.set(1, 6);
        six.analyse();
        due("six of seven", six.count(6), 6);
        due("the last of them", six.common(0, 5, 0), 5);
        due("the seventh is in a bucket", six.bucket(0, 0, 0), 6);
    }

    private static void pair() {
        EqualHeights x = tableOfPairs(pairOf(8, 1), pairOf(8, 1), pairOf(2, 9), pairOf(2, 9), pairOf(2, 5),
            pairOf(2, 5), pairOf(50, 60), pairOf(50, 60), pairOf(50, 60), pairOf(1, 1));
        x.set(2, 6);
        x.analyse();
        int[][] pairs = {{50, 60, 3}, {2, 5, 2}, {2, 9, 2}, {8, 1, 2}};
        for (int pair = 0; pair < 4; pair++) {
            for (int what = 0; what < 3; what++) {
                due("pair(" + pair + ", " + what + ")", x.pair(pair, what), pairs[pair][what]);
            }
        }
        due("only with two rows", x.pair(4, 0), -1);
        due("count(8)", x.count(8), 4);
        x.set(2, 2);
        x.analyse();
        due("only as many as PAIRS tells", x.count(8), 2);
        due("the second", x.pair(1, 1), 5);
        due("no third", x.pair(2, 1), -1);
        due("pair -1", x.pair(-1, 1), -1);
        due("pair MAX", x.pair(MAX, 1), -1);
        due("pair MIN", x.pair(MIN, 1), -1);
        due("what 3", x.pair(0, 3), -2);
        due("what -1", x.pair(0, -1), -2);
        due("bad value comes first", x.pair(99, 3), -2);
        x.set(2, 0);
        x.analyse();
        due("none if PAIRS is 0", x.pair(0, 0), -1);
        EqualHeights edges = tableOfPairs(pairOf(99, 99), pairOf(99, 99), pairOf(0, 0), pairOf(0, 0));
        edges.analyse();
        due("0 and 0 first", edges.pair(0, 1), 0);
        due("99 and 99", edges.pair(1, 0), 99);
        due("99 and 99", edges.pair(1, 1), 99);
    }

    private static void count() {
        EqualHeights x = tableOfPairs(pairOf(1, 5), pairOf(1, 5), pairOf(2, 6), pairOf(2, 7), pairOf(3, 8),
            pairOf(4, 9), pairOf(5, 10));
        x.set(3, 100);
        x.analyse();
        x.insert(1, 1);
        x.remove(0);
        x.remove(0);
        write(x, "+1,2;a");
        int[] counts = {6, 7, 3, 0, 3, 4, 2, 1, 1, 4, 2, 2, 100, 6, 6};
        for (int what = 0; what < counts.length; what++) {
            due("count(" + what + ")", x.count(what), counts[what]);
        }
        due("count(15)", x.count(15), -2);
        due("count(-1)", x.count(-1), -2);
        due("count(MIN)", x.count(MIN), -2);
        due("count(MAX)", x.count(MAX), -2);
    }

    private static void stale() {
        EqualHeights x = tableOf(1, 2, 3, 4, 5, 6, 7, 8, 9, 10);
        x.remove(0);
        due("nothing counts before an analysis", x.count(2), 0);
        x.insert(1, 0);
        x.analyse();
        due("not stale", x.count(3), 0);
        x.insert(1, 1);
        x.remove(0);
        due("a coming and a going", x.count(2), 2);
        due("100 * 2 is not more than 20 * 10", x.count(3), 0);
        x.remove(0);
        due("one more", x.count(3), 1);
        x.set(3, 30);
        due("a higher limit", x.count(3), 0);
        x.set(3, 0);
        due("the lowest limit", x.count(3), 1);
        x.analyse();
        due("analysed anew", x.count(3), 0);
    }

    private static void estimate() {
        // Common: 50 with 3 rows. Buckets: 10 to 19 and 20 to 40, 3 rows each.
        EqualHeights x = tableOf(10, 15, 19, 20, 30, 40, 50, 50, 50);
        x.set(0, 2);
        x.analyse();
        due("a part of a bucket", x.estimate(0, 10, 16, 0), 2);
        due("rounded down", x.estimate(0, 10, 15, 0), 1);
        due("each bucket by itself", x.estimate(0, 14, 26, 0), 2);
        due("all", x.estimate(0, 0, 99, 0), 9);
        due("common rows", x.estimate(0, 50, 50, 0), 3);
        due("common rows just outside", x.estimate(0, 41, 49, 0), 0);
        due("the least, whole buckets alone", x.estimate(0, 10, 39, 1), 3);
        due("the least, ends included", x.estimate(0, 10, 40, 1), 6);
        due("the least, cut below", x.estimate(0, 11, 50, 1), 6);
        due("the most, touched above", x.estimate(0, 19, 19, 2), 3);
        due("the most, touched both", x.estimate(0, 19, 20, 2), 6);
        due("the most, a value that no row has", x.estimate(0, 12, 12, 2), 3);
        due("the most, outside", x.estimate(0, 41, 49, 2), 0);
        due("the most with common rows", x.estimate(0, 40, 50, 2), 6);
        due("truly", x.estimate(0, 15, 30, 4), 4);
        due("column 1", x.estimate(1, 0, 3, 4), 4);
        due("column 1, estimated", x.estimate(1, 0, 4, 0), 5);
        x.insert(50, 9);
        x.insert(50, 10);
        due("the estimate stays", x.estimate(0, 40, 50, 0), 3);
        due("scaled: 3 * 11 / 9", x.estimate(0, 40, 50, 3), 3);
        due("scaled: 9 * 11 / 9", x.estimate(0, 0, 99, 3), 11);
        due("scaled: 6 * 11 / 9", x.estimate(0, 0, 49, 3), 7);
        due("truly now", x.estimate(0, 50, 50, 4), 5);
        int[][] wrong = {{2, 0, 1, 0}, {-1, 0, 1, 0}, {0, -1, 1, 0}, {0, 5, 4, 0}, {0, 0, 100, 0}, {0, 100, 100, 0},
            {0, 0, 1, 5}, {0, 0, 1, -1}, {0, MIN, MAX, 0}, {MAX, 0, 1, 0}, {0, 0, 1, MIN}};
        EqualHeights none = tableOf(1, 2);
        for (int[] w : wrong) {
            due("estimate, wrong", x.estimate(w[0], w[1], w[2], w[3]), -2);
            due("estimate, wrong, without an analysis", none.estimate(w[0], w[1], w[2], w[3]), -2);
        }
        for (int what = 0; what < 4; what++) {
            due("without an analysis", none.estimate(0, 0, 99, what), -6);
        }
        due("truly without an analysis", none.estimate(0, 0, 1, 4), 1);
        due("truly in an empty table", new EqualHeights().estimate(0, 0, 99, 4), 0);
    }

    private static void both() {
        // Pairs: 5 and 5 with 2 rows, 7 and 8 with 2 rows; four rows more.
        EqualHeights x = tableOfPairs(pairOf(5, 5), pairOf(5, 5), pairOf(7, 8), pairOf(7, 8), pairOf(5, 20),
            pairOf(6, 30), pairOf(20, 5), pairOf(30, 8));
        x.analyse();
        // Column 0: common 5 (3 rows), 7 (2); buckets 6, 20, 30. Column 1: common 5 (3), 8 (3); buckets 20, 30.
        due("a pair alone", x.both(5, 5, 5, 5, 0), 2);
        due("nothing is left of E", x.both(7, 7, 0, 99, 0), 2);
        due("both rests: 1 * 1 / 4", x.both(5, 5, 5, 7, 0), 2);
        due("a pair, and (6 - 4) * (6 - 4) / 4", x.both(5, 7, 5, 8, 0), 5);
        due("P is 0: (3 - 2) * (3 - 2) / 4", x.both(5, 5, 8, 8, 0), 0);
        due("a pair only in B: 2 * 1 / 4", x.both(20, 30, 5, 5, 0), 0);
        due("a pair only in B: 2 * 4 / 4", x.both(20, 30, 5, 99, 0), 2);
        due("all: 4 + 4 * 4 / 4", x.both(0, 99, 0, 99, 0), 8);
        due("truly", x.both(5, 7, 5, 8, 2), 4);
        due("truly in A alone", x.both(20, 30, 20, 99, 2), 0);
        x.remove(7);
        x.remove(6);
        due("scaled: 5 * 6 / 8", x.both(5, 7, 5, 8, 1), 3);
        due("the estimate stays", x.both(5, 7, 5, 8, 0), 5);
        due("truly now", x.both(0, 99, 5, 8, 2), 4);
        EqualHeights alike = tableOfPairs(pairOf(5, 5), pairOf(5, 5), pairOf(5, 5));
        alike.analyse();
        due("N less T is 0", alike.both(0, 99, 0, 99, 0), 3);
        due("N less T is 0, outside", alike.both(0, 4, 0, 99, 0), 0);
        EqualHeights cut = bothCut();
        due("E less than Q counts as 0", cut.both(10, 10, 0, 99, 0), 2);
        EqualHeights none = tableOf(1, 2);
        due("without an analysis", none.both(0, 1, 0, 1, 0), -6);
        due("scaled without an analysis", none.both(0, 1, 0, 1, 1), -6);
        due("truly without an analysis", none.both(0, 1, 0, 1, 2), 1);
        int[][] wrong = {{-1, 5, 0, 5, 0}, {5, 4, 0, 5, 0}, {0, 100, 0, 5, 0}, {0, 5, -1, 5, 0}, {0, 5, 5, 4, 0},
            {0, 5, 0, 100, 0}, {0, 5, 0, 5, 3}, {0, 5, 0, 5, -1}, {MIN, MAX, 0, 5, 0}, {0, 5, MAX, MIN, 0}};
        for (int[] w : wrong) {
            due("both, wrong", x.both(w[0], w[1], w[2], w[3], w[4]), -2);
            due("both, wrong, without an analysis", none.both(w[0], w[1], w[2], w[3], w[4]), -2);
        }
    }

    /** Without common values, the pair's rows are in a wide bucket, which tells fewer of them. */
    private static EqualHeights bothCut() {
        EqualHeights x = tableOfPairs(pairOf(10, 10), pairOf(10, 10), pairOf(0, 0), pairOf(90, 90));
        x.set(0, 1);
        x.set(1, 0);
        x.analyse();
        due("E", x.estimate(0, 10, 10, 0), 0);
        return x;
    }

    private static void share() {
        EqualHeights x = tableOf(1, 2, 3, 4, 5, 6, 7);
        x.set(0, 10);
        x.analyse();
        for (int high = 0; high < 9; high++) {
            int rows = Math.min(high, 7);
            due("share(0, 0, " + high + ")", x.share(0, 0, high), Float.floatToIntBits(rows / 7.0f));
        }
        due("a third", tableAnalysed(1, 2, 3).share(0, 1, 1), 0x3EAAAAAB);
        due("nothing", x.share(0, 50, 60), 0);
        due("all", x.share(1, 0, 99), 0x3F800000);
        x.insert(1, 1);
        due("of the analysed rows", x.share(0, 0, 99), 0x3F800000);
        due("column 2", x.share(2, 0, 1), -2);
        due("column -1", x.share(-1, 0, 1), -2);
        due("low -1", x.share(0, -1, 1), -2);
        due("high 100", x.share(0, 0, 100), -2);
        due("high below low", x.share(0, 2, 1), -2);
        due("without an analysis", tableOf(1).share(0, 0, 1), -6);
        due("wrong without an analysis", tableOf(1).share(0, 1, 0), -2);
        everyShare();
    }

    private static void everyShare() {
        for (int rows = 1; rows <= 60; rows++) {
            for (int part = 1; part < rows; part++) {
                EqualHeights x = new EqualHeights();
                for (int row = 0; row < rows; row++) {
                    x.insert(row < part ? 1 : 2, 0);
                }
                x.set(0, 1);
                x.set(1, part > 1 ? 6 : 0);
                x.analyse();
                float share = (float) ((double) x.estimate(0, 1, 1, 0) / rows);
                due("share " + part + " of " + rows, x.share(0, 1, 1), Float.floatToIntBits(share));
            }
        }
    }

    private static void height() {
        for (int rows = 1; rows <= 60; rows++) {
            EqualHeights x = new EqualHeights();
            for (int row = 0; row < rows; row++) {
                x.insert(row, row);
            }
            for (int buckets = 1; buckets <= 10; buckets++) {
                x.set(0, buckets);
                x.analyse();
                double mean = (double) rows / Math.min(rows, buckets);
                due("height of " + rows + " in " + buckets, x.height(buckets % 2), Double.doubleToLongBits(mean));
            }
        }
        EqualHeights x = tableAnalysed(5, 5, 1, 2, 3, 4, 6);
        due("common rows are not in it", x.height(0), Double.doubleToLongBits(1.25));
        due("column 1", x.height(1), Double.doubleToLongBits(1.75));
        due("column 2", x.height(2), -2);
        due("column -1", x.height(-1), -2);
        due("column MAX", x.height(MAX), -2);
        due("without buckets", tableAnalysed(5, 5).height(0), 0);
        due("without an analysis", tableOf(5, 6).height(0), 0);
        due("wrong without an analysis", tableOf(5, 6).height(2), -2);
    }

    private static void worst() {
        // One bucket 10 to 12 with 6 rows: 2 each are estimated.
        EqualHeights x = tableOf(10, 10, 11, 12, 12, 12);
        x.set(0, 1);
        x.set(1, 0);
        x.analyse();
        due("of several the lowest one", x.worst(0, 0), 11);
        due("how far", x.worst(0, 1), 1);
        x.remove(0);
        x.remove(0);
        x.remove(0);
        due("of the analysed rows", x.worst(0, 0), 11);
        due("all is right", tableAnalysed(5, 5).worst(0, 1), 0);
        due("then the lowest of all", tableAnalysed(5, 5).worst(0, 0), 0);
        // One bucket 0 to 99 with 5 rows: 0 each are estimated.
        EqualHeights wide = tableOf(0, 99, 99, 99, 98);
        wide.set(0, 1);
        wide.set(1, 0);
        wide.analyse();
        due("the highest value", wide.worst(0, 0), 99);
        due("too few", wide.worst(0, 1), 3);
        due("column 2", x.worst(2, 0), -2);
        due("column -1", x.worst(-1, 0), -2);
        due("what 2", x.worst(0, 2), -2);
        due("what -1", x.worst(0, -1), -2);
        due("without an analysis", tableOf(5).worst(0, 0), -6);
        due("without an analysis", tableOf(5).worst(0, 1), -6);
        due("wrong without an analysis", tableOf(5).worst(2, 1), -2);
    }

    private static void fewest() {
        EqualHeights x = tableOf(1, 10, 20, 30, 40);
        due("every row needs its bucket", x.fewest(0, 0), 5);
        due("one bucket is wrong by one", x.fewest(0, 1), 1);
        due("no analysis came", x.count(1), 0);
        due("the setting stays", x.count(9), 4);
        due("nothing recorded", x.count(14), 5);
        due("far 60", x.fewest(0, 60), 1);
        due("far 61", x.fewest(0, 61), -2);
        due("far -1", x.fewest(0, -1), -2);
        due("column 2", x.fewest(2, 0), -2);
        due("column -1", x.fewest(-1, 0), -2);
        due("no rows", new EqualHeights().fewest(0, 0), -5);
        due("wrong and no rows", new EqualHeights().fewest(0, 61), -2);
        EqualHeights many = tableOf(0, 9, 18, 27, 36, 45, 54, 63, 72, 81, 90, 99);
        due("ten are too few", many.fewest(0, 0), -6);
        due("but not of the column 1", many.fewest(1, 0), 1);
        EqualHeights common = tableOf(5, 5, 5, 90);
        due("common values help", common.fewest(0, 0), 1);
        common.set(1, 0);
        due("COMMON as it is: 5 5, 5, 90", common.fewest(0, 0), 3);
        EqualHeights changed = tableAnalysed(1, 50);
        changed.remove(1);
        due("the rows of now", changed.fewest(0, 0), 1);
        changed.remove(0);
        due("no rows of now", changed.fewest(0, 0), -5);
    }

    private static void put() {
        EqualHeights x = new EqualHeights();
        due("put('a')", x.put(0x61), 1);
        due("put(';b')", x.put(0x3B62), 3);
        due("put('4')", x.put(0x34), 4);
        due("the lowest 8 bits come last", x.fault(), -6);
        due("eight characters", x.put(Check.numbersOf("12345678")[0]), 12);
        due("no character", x.put(0), -2);
        due("below 33", x.put(32), -2);
        due("above 126", x.put(127), -2);
        due("33", x.put(33), 13);
        due("126", x.put(126), 14);
        due("above 127", x.put(0xE1), -2);
        due("a wrong one ahead", x.put(0x2061), -2);
        due("the highest 8 bits wrong", x.put(0x8061616161616161L), -2);
        due("bits above the end", x.put(0x610061), -2);
        due("the highest bit alone", x.put(Long.MIN_VALUE), -2);
        due("0 ends, 1 bit above it", x.put(0x100000000000061L), -2);
        due("all bits", x.put(-1), -2);
        due("only ends in front", x.put(0x6100), -2);
        due("length", x.count(13), 14);
        due("put is no change", x.count(14), 0);
        for (int length = 22; length <= 78; length += 8) {
            due("put to " + length, x.put(Check.numbersOf("aaaaaaaa")[0]), length);
        }
        due("three are too many", x.put(Check.numbersOf("aaa")[0]), -4);
        due("wrong before too many", x.put(0x20616161), -2);
        due("two fit", x.put(Check.numbersOf("aa")[0]), 80);
        due("one is too many", x.put(0x61), -4);
        due("80", x.count(13), 80);
    }

    private static void wipe() {
        EqualHeights x = new EqualHeights();
        write(x, "+1,1;+2,2;");
        due("wipe", x.wipe(), 10);
        due("wiped", x.count(13), 0);
        due("again", x.wipe(), 0);
        due("no change", x.count(14), 0);
        write(x, "a");
        due("written anew", x.fault(), -6);
    }

    private static void fault() {
        due("empty", faultOf(""), 0);
        String[] whole = {"a", "+0,0", "+99,99", "+10,5*1", "+1,1*9", "-0", "-99", "b0", "c9", "p99", "a;a",
            "+1,2;-0;a;b1;c0;p6;+3,4*5"};
        for (String text : whole) {
            due("fault of " + text, faultOf(text), -6);
        }
        String[] early = {"+", "+1", "+12", "+1,", "+1,1*", "-", "b", "c", "p", "a;", "+0,0;", "-1;b"};
        for (String text : early) {
            due("fault of " + text, faultOf(text), text.length());
        }
        Object[][] wrong = {{"x", 0}, {";", 0}, {"1", 0}, {"A", 0}, {"*", 0}, {",", 0}, {"aa", 1}, {"a1", 1}, {"a,", 1},
            {"a;;", 2}, {"+,", 1}, {"+-1", 1}, {"+1;", 2}, {"+00", 2}, {"+01,1", 2}, {"+100,1", 3}, {"+1,100", 5},
            {"+1,02", 4}, {"+1,1*0", 5}, {"+1,1*10", 6}, {"+1,1*5*5", 6}, {"+1,1,1", 4}, {"+1*2", 2}, {"-100", 3},
            {"-00", 2}, {"-1*2", 2}, {"-1,2", 2}, {"b-", 1}, {"b100", 3}, {"c1a", 2}, {"p1*1", 2}, {"s1", 0},
            {"+1,2;x", 5}, {"+1,1**", 5}, {"+a", 1}, {"+1,a", 3}, {"d1", 0}, {"-:", 1}, {"-/", 1}};
        for (Object[] text : wrong) {
            due("fault of " + text[0], faultOf((String) text[0]), (Integer) text[1]);
        }
        EqualHeights x = new EqualHeights();
        for (int i = 0; i < 10; i++) {
            write(x, "+99,99*9");
        }
        due("80 characters without a separator", x.fault(), 8);
        x.wipe();
        for (int i = 0; i < 40; i++) {
            write(x, "a;");
        }
        due("80 characters, too early", x.fault(), 80);
    }

    private static void carryOut() {
        EqualHeights x = new EqualHeights();
        due("an empty pad has a fault", x.carryOut(), -3);
        write(x, "+5,6;+7,8*3;-0;b3;c1;p0;a");
        due("all orders", x.carryOut(), 7);
        due("rows", x.count(0), 3);
        due("first row", x.row(0, 0), 7);
        due("last row", x.row(2, 1), 8);
        due("analysed", x.count(1), 3);
        due("BUCKETS", x.count(9), 3);
        due("COMMON", x.count(10), 1);
        due("PAIRS", x.count(11), 0);
        due("no pairs", x.count(8), 0);
        due("the pad is empty", x.count(13), 0);
        due("one change", x.count(14), 1);
        write(x, "+1,1;");
        due("a fault", x.carryOut(), -3);
        due("the pad stays", x.count(13), 5);
        due("no change", x.count(14), 1);
        due("no row", x.count(0), 3);
        due("undo of all at once", x.undo(), 0);
        due("no rows", x.count(0), 0);
        due("no analysis", x.count(1), 0);
        due("BUCKETS again", x.count(9), 4);
        due("undo leaves the pad", x.count(13), 5);
    }

    private static void carryOutStopsAtErrors() {
        EqualHeights x = new EqualHeights();
        write(x, "a;+1,1");
        due("none is carried out", x.carryOut(), 0);
        due("no row", x.count(0), 0);
        due("still a change", x.count(14), 1);
        due("the pad is empty", x.count(13), 0);
        String[] stopping = {"+1,1;b0;+1,1", "+1,1;b11;+1,1", "+1,1;c7;+1,1", "+1,1;p7;+1,1", "+1,1;-1;+1,1"};
        for (String text : stopping) {
            EqualHeights y = new EqualHeights();
            write(y, text);
            due("carryOut of " + text, y.carryOut(), 1);
            due("one row of " + text, y.count(0), 1);
            due("pad after " + text, y.count(13), 0);
            due("changes of " + text, y.count(14), 1);
        }
        for (int i = 0; i < 55; i++) {
            x.insert(i, i);
        }
        x.analyse();
        write(x, "-0;+3,4*9;-0");
        due("not room for all", x.carryOut(), 1);
        due("those for which there was room stay", x.count(0), 60);
        due("with their values", x.row(59, 1), 4);
        due("each of them came", x.count(2), 7);
        write(x, "+3,4;-0");
        due("no room", x.carryOut(), 0);
        due("still 60", x.count(0), 60);
        due("nothing came", x.count(2), 7);
        due("undo of nothing", x.undo(), 5);
        due("still 60", x.count(0), 60);
        due("undo", x.undo(), 4);
        due("all of its rows", x.count(0), 55);
        due("all that came and went", x.count(2), 0);
    }

    private static void undo() {
        EqualHeights x = new EqualHeights();
        for (int i = 0; i < 8; i++) {
            x.insert(i, i);
            due("history", x.count(14), Math.min(i + 1, 6));
        }
        for (int left = 5; left >= 0; left--) {
            due("undo", x.undo(), left);
            due("rows then", x.count(0), left + 2);
        }
        due("the oldest ones are dropped", x.undo(), -5);
        due("rows that stay", x.count(0), 2);
        x.set(3, 77);
        x.analyse();
        x.remove(0);
        due("came and went", x.count(2), 1);
        x.undo();
        due("nothing came or went", x.count(2), 0);
        due("the row is there", x.row(0, 1), 0);
        x.undo();
        due("no analysis", x.count(3), -6);
        due("no buckets", x.bucket(0, 0, 0), -1);
        x.undo();
        due("STALE", x.count(12), 20);
        due("nothing is left", x.undo(), -5);
        x.insert(100, 0);
        x.remove(50);
        x.set(0, 0);
        x.restore(0);
        due("errors record nothing", x.undo(), -5);
        undoOfAnalyses();
        undoOfEverything();
    }

    private static void undoOfAnalyses() {
        EqualHeights x = tableOfPairs(pairOf(1, 2), pairOf(1, 2), pairOf(9, 9));
        x.analyse();
        x.remove(0);
        x.remove(0);
        x.insert(30, 40);
        x.analyse();
        due("the new analysis", x.count(6), 0);
        due("its buckets", x.bucket(0, 1, 0), 30);
        x.undo();
        due("the old common value", x.common(0, 0, 0), 1);
        due("the old common rows", x.common(0, 0, 1), 2);
        due("the old pair", x.pair(0, 1), 2);
        due("the old bucket", x.bucket(0, 0, 1), 9);
        due("its unlike values", x.bucket(0, 0, 3), 1);
        due("the old analysed rows", x.count(1), 3);
        due("what came and went", x.count(2), 3);
        due("the old worst", x.worst(0, 1), 0);
    }

    private static void undoOfEverything() {
        String before = everything(tableOfTwenty());
        EqualHeights x = tableOfTwenty();
        due("all orders", carriedOut(x, "b10;c0;p0;-0;-3;-7;a;+99,98*5;-0"), 9);
        CHECK.holds("all is different", !everything(x).equals(before));
        due("undo", x.undo(), 5);
        String undone = everything(x);
        CHECK.holds("all is as it was: " + undone, undone.equals(before));
    }

    private static void restoreOfEverything() {
        String before = everything(tableOfTwenty());
        EqualHeights x = tableOfTwenty();
        x.save(1);
        carriedOut(x, "c0;p1;-5;-1;a;-0");
        String changed = everything(x);
        due("restore", x.restore(1), 21);
        String restored = everything(x);
        CHECK.holds("all is as it was saved: " + restored, restored.equals(before));
        x.undo();
        String undone = everything(x);
        CHECK.holds("all is as it was changed: " + undone, undone.equals(changed));
    }

    private static void undoKeepsPadAndSlots() {
        EqualHeights x = new EqualHeights();
        x.insert(1, 1);
        write(x, "a");
        x.save(0);
        x.insert(2, 2);
        x.save(1);
        due("undo", x.undo(), 1);
        due("undo", x.undo(), 0);
        due("pad stays", x.count(13), 1);
        due("slot 1 stays", x.restore(1), 2);
        due("slot 0 stays", x.restore(0), 1);
        due("two changes", x.count(14), 2);
    }

    private static void save() {
        EqualHeights x = tableOf(1, 2, 3);
        due("save(2)", x.save(2), -2);
        due("save(-1)", x.save(-1), -2);
        due("save(MAX)", x.save(MAX), -2);
        due("save(MIN)", x.save(MIN), -2);
        due("save(0)", x.save(0), 3);
        due("save is no change", x.count(14), 3);
        x.remove(0);
        due("save(1)", x.save(1), 2);
        due("restore(0)", x.restore(0), 3);
        due("restore(1)", x.restore(1), 2);
        x.remove(0);
        due("save overwrites", x.save(0), 1);
        due("restore(0)", x.restore(0), 1);
        due("row", x.row(0, 0), 3);
        EqualHeights empty = new EqualHeights();
        due("save of an empty table", empty.save(0), 0);
        empty.insert(1, 1);
        due("restore of an empty table", empty.restore(0), 0);
    }

    private static void restore() {
        EqualHeights x = tableOfPairs(pairOf(1, 2), pairOf(1, 2), pairOf(9, 9));
        due("restore(2)", x.restore(2), -2);
        due("restore(-1)", x.restore(-1), -2);
        due("restore(MAX)", x.restore(MAX), -2);
        due("nothing saved", x.restore(0), -5);
        due("no change", x.count(14), 3);
        x.set(0, 7);
        x.analyse();
        x.insert(4, 4);
        x.save(1);
        due("nothing in the other slot", x.restore(0), -5);
        write(x, "a;a");
        x.set(0, 1);
        x.remove(0);
        x.remove(0);
        x.analyse();
        int recorded = x.count(14);
        due("restore(1)", x.restore(1), 4);
        due("at most six states", recorded, 6);
        due("still six", x.count(14), 6);
        due("settings", x.count(9), 7);
        due("came and went", x.count(2), 1);
        due("analysed rows", x.count(1), 3);
        due("common value", x.common(0, 0, 0), 1);
        due("pair", x.pair(0, 2), 2);
        due("last row", x.row(3, 0), 4);
        due("the pad stays", x.count(13), 3);
        due("undo of restore", x.undo(), 5);
        due("rows before", x.count(0), 2);
        due("BUCKETS before", x.count(9), 1);
        due("the slot keeps it", x.restore(1), 4);
        x.insert(5, 5);
        x.set(0, 2);
        due("also after changes", x.restore(1), 4);
        due("as it was", x.count(9), 7);
    }
}
