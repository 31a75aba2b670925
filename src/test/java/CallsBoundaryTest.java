import java.io.IOException;

/** The sentences of the promises 1 to 10 and 21 to 23 that name a boundary. */
public final class CallsBoundaryTest extends Sentences {
    private static final int STALE = EqualHeights.STALE;

    public static void main(String[] args) throws IOException {
        new CallsBoundaryTest().runAll();
    }

    // ---- Promise 1: a new object

    @Sentence(of = "Promise 1", says = "Creates an empty table without an analysis.")
    void emptyWithoutAnAnalysis() {
        EqualHeights x = new EqualHeights();
        int[] counts = {0, 0, 0, -6, 0, 0, 0, 0, 0, 4, 2, 2, 20, 0, 0};
        for (int what = 0; what < counts.length; what++) {
            due("count(" + what + ")", x.count(what), counts[what]);
        }
        due("row", x.row(0, 0), -1);
        due("estimate", x.estimate(0, 0, 99, 0), -6);
        due("analyse", x.analyse(), -5);
        due("undo", x.undo(), -5);
        due("restore(0)", x.restore(0), -5);
        due("restore(1)", x.restore(1), -5);
        due("wipe", x.wipe(), 0);
        EqualHeights other = tableOf(1, 2, 3);
        due("another object's rows are not in it", x.count(0), 0);
        due("nor its own in the other one", other.count(0), 3);
    }

    // ---- Promise 2: set

    @Sentence(of = "Promise 2", says = "Changes a setting (what was remembered stays). This is a change.")
    void whatWasRememberedStays() {
        EqualHeights x = tableOfPairs(pairOf(1, 1), pairOf(1, 1), pairOf(2, 2), pairOf(2, 2), pairOf(3, 3), pairOf(4, 4));
        x.analyse();
        x.set(0, 1);
        x.set(1, 0);
        x.set(2, 0);
        due("buckets", x.count(4), 2);
        due("common values", x.count(6), 2);
        due("pairs", x.count(8), 2);
        due("the second bucket", x.bucket(0, 1, 0), 4);
        due("the second common value", x.common(0, 1, 0), 2);
        due("the second pair", x.pair(1, 1), 2);
        due("nothing came or went", x.count(2), 0);
        due("not stale", x.count(3), 0);
        EqualHeights same = new EqualHeights();
        due("the same value", same.set(0, 4), 4);
        due("is a change, too", same.count(14), 1);
    }

    @Sentence(of = "Promise 2", says = "Returns the previous value; BAD_VALUE if there is no such setting, or the value is out of "
        + "its range.")
    void noSuchSettingOrValue() {
        EqualHeights x = new EqualHeights();
        for (int setting : new int[] {-1, 4, MIN, MAX}) {
            due("setting " + setting, x.set(setting, 1), -2);
        }
        int[][] wrong = {{0, 0}, {0, 11}, {1, -1}, {1, 7}, {2, -1}, {2, 7}, {3, -1}, {3, 101}, {0, MIN}, {1, MAX}, {2, MIN},
            {3, MAX}};
        for (int[] w : wrong) {
            due("set(" + w[0] + ", " + w[1] + ")", x.set(w[0], w[1]), -2);
        }
        int[][] right = {{0, 1, 4}, {0, 10, 1}, {0, 4, 10}, {1, 0, 2}, {1, 6, 0}, {2, 0, 2}, {2, 6, 0}, {3, 0, 20}, {3, 100, 0},
            {3, 20, 100}};
        for (int[] r : right) {
            due("set(" + r[0] + ", " + r[1] + ")", x.set(r[0], r[1]), r[2]);
        }
    }

    // ---- Promise 3: insert

    @Sentence(of = "Promise 3", says = "A row comes. This is a change.")
    void comingIsAChange() {
        EqualHeights x = tableAnalysed(1);
        due("changes", x.count(14), 2);
        x.insert(1, 0);
        due("also of a row like another one", x.count(14), 3);
        due("it came", x.count(2), 1);
    }

    @Sentence(of = "Promise 3", says = "a: 0 to 99, its value in the column 0")
    void valueOfTheColumn0() {
        EqualHeights x = new EqualHeights();
        due("-1", x.insert(-1, 5), -2);
        due("0", x.insert(0, 5), 0);
        due("99", x.insert(99, 5), 1);
        due("100", x.insert(100, 5), -2);
        due("MIN", x.insert(MIN, 5), -2);
        due("MAX", x.insert(MAX, 5), -2);
        due("the first", x.row(0, 0), 0);
        due("the second", x.row(1, 0), 99);
        due("not more", x.count(0), 2);
    }

    @Sentence(of = "Promise 3", says = "b: 0 to 99, its value in the column 1")
    void valueOfTheColumn1() {
        EqualHeights x = new EqualHeights();
        due("-1", x.insert(5, -1), -2);
        due("0", x.insert(5, 0), 0);
        due("99", x.insert(5, 99), 1);
        due("100", x.insert(5, 100), -2);
        due("MIN", x.insert(5, MIN), -2);
        due("MAX", x.insert(5, MAX), -2);
        due("the first", x.row(0, 1), 0);
        due("the second", x.row(1, 1), 99);
        due("not more", x.count(0), 2);
    }

    @Sentence(of = "Promise 3", says = "Returns its number; BAD_VALUE if a value is out of range; TOO_MANY if there are 60 rows.")
    void tooManyIfThereAreSixty() {
        EqualHeights x = new EqualHeights();
        for (int row = 0; row < 60; row++) {
            due("its number", x.insert(row, 99 - row), row);
        }
        due("the 61st", x.insert(1, 1), -4);
        due("a bad one", x.insert(-1, 1), -2);
        due("a bad one", x.insert(1, 100), -2);
        due("rows", x.count(0), 60);
        x.remove(0);
        due("room for one", x.insert(7, 8), 59);
        due("not for two", x.insert(7, 8), -4);
        x.undo();
        due("room again after undo", x.insert(9, 9), 59);
    }

    // ---- Promise 4: remove

    @Sentence(of = "Promise 4", says = "A row goes. This is a change.")
    void goingIsAChange() {
        EqualHeights x = tableAnalysed(1, 1);
        x.remove(1);
        due("changes", x.count(14), 4);
        due("it went", x.count(2), 1);
        due("undo", x.undo(), 3);
        due("it is there again", x.row(1, 1), 1);
        due("it did not go", x.count(2), 0);
    }

    @Sentence(of = "Promise 4", says = "Returns how many rows there are then; NO_SUCH if there is no such row.")
    void noSuchRowToRemove() {
        EqualHeights x = tableOfRows(60);
        for (int row : new int[] {-1, 60, MIN, MAX}) {
            due("row " + row + " of 60", x.remove(row), -1);
        }
        due("the last of 60", x.remove(59), 59);
        due("no row 59", x.remove(59), -1);
        due("the first of 59", x.remove(0), 58);
        for (int left = 57; left >= 0; left--) {
            due("the last one", x.remove(left), left);
        }
        due("none is left", x.remove(0), -1);
        due("none was there", new EqualHeights().remove(0), -1);
    }

    // ---- Promise 5: analyse

    @Sentence(of = "Promise 5", says = "Makes an analysis. This is a change.")
    void analysingIsAChange() {
        EqualHeights x = tableAnalysed(1, 2);
        x.analyse();
        due("also the second time", x.count(14), 4);
        due("undo", x.undo(), 3);
        due("the first one", x.count(1), 2);
        due("undo", x.undo(), 2);
        due("none", x.count(1), 0);
    }

    @Sentence(of = "Promise 5", says = "Returns how many rows were analysed; NOT_POSSIBLE if there are none.")
    void analyseWithoutRows() {
        EqualHeights x = new EqualHeights();
        due("no rows", x.analyse(), -5);
        due("no change", x.count(14), 0);
        x.insert(1, 1);
        due("one row", x.analyse(), 1);
        x.remove(0);
        due("no rows any more", x.analyse(), -5);
        due("sixty rows", tableOfRows(60).analyse(), 60);
    }

    // ---- Promise 6: row

    @Sentence(of = "Promise 6", says = "column: 0 or 1")
    void columnsOfRow() {
        EqualHeights x = tableOfPairs(pairOf(7, 8));
        due("column 0", x.row(0, 0), 7);
        due("column 1", x.row(0, 1), 8);
        for (int column : new int[] {-1, 2, MIN, MAX}) {
            due("column " + column, x.row(0, column), -2);
        }
    }

    @Sentence(of = "Promise 6", says = "Returns the value; NO_SUCH if there is no such row; BAD_VALUE if column is neither 0 nor 1.")
    void noSuchRow() {
        EqualHeights x = tableOfRows(60);
        due("the first", x.row(0, 0), 0);
        due("the last", x.row(59, 1), 59);
        for (int row : new int[] {-1, 60, MIN, MAX}) {
            due("row " + row, x.row(row, 0), -1);
            due("row " + row + ", column 2", x.row(row, 2), -1);
        }
        due("a bad column of a row", x.row(59, 2), -2);
        x.remove(0);
        due("the last one went", x.row(59, 0), -1);
        due("no rows", new EqualHeights().row(0, 0), -1);
        due("no rows, bad column", new EqualHeights().row(0, -1), -1);
    }

    // ---- Promise 7: bucket

    @Sentence(of = "Promise 7", says = "what: 0 its lowest value, 1 its highest value, 2 its rows, 3 its unlike values")
    void whatsOfBucket() {
        EqualHeights x = tableCut(1, 0, 3, 3, 3, 9, 40);
        int[] facts = {3, 40, 5, 3};
        for (int what = 0; what < 4; what++) {
            due("what " + what, x.bucket(0, 0, what), facts[what]);
        }
    }

    @Sentence(of = "Promise 7", says = "column: 0 or 1")
    void columnsOfBucket() {
        EqualHeights x = tableOfPairs(pairOf(7, 8));
        x.analyse();
        due("column 0", x.bucket(0, 0, 0), 7);
        due("column 1", x.bucket(1, 0, 0), 8);
        for (int column : new int[] {-1, 2, MIN, MAX}) {
            for (int what = 0; what < 4; what++) {
                due("column " + column + ", what " + what, x.bucket(column, 0, what), -2);
            }
        }
    }

    @Sentence(of = "Promise 7", says = "BAD_VALUE if column or what is out of range; NO_SUCH if there is no such bucket.")
    void noSuchBucket() {
        EqualHeights x = tableOfRows(60);
        x.set(0, 10);
        x.analyse();
        due("the first", x.bucket(0, 0, 0), 0);
        due("the last", x.bucket(1, 9, 1), 59);
        for (int bucket : new int[] {-1, 10, MIN, MAX}) {
            due("bucket " + bucket, x.bucket(0, bucket, 0), -1);
            due("bucket " + bucket + ", column 2", x.bucket(2, bucket, 0), -2);
            due("bucket " + bucket + ", what 4", x.bucket(0, bucket, 4), -2);
        }
        for (int column : new int[] {-1, 2, MIN, MAX}) {
            due("column " + column, x.bucket(column, 0, 0), -2);
        }
        for (int what : new int[] {-1, 4, MIN, MAX}) {
            due("what " + what, x.bucket(0, 0, what), -2);
        }
        x.set(0, 3);
        x.analyse();
        due("the last of fewer", x.bucket(0, 2, 1), 59);
        due("no bucket that was there before", x.bucket(0, 3, 0), -1);
        due("without an analysis", tableOf(1).bucket(0, 0, 0), -1);
        due("without an analysis, bad", tableOf(1).bucket(0, 0, 4), -2);
    }

    // ---- Promise 8: common

    @Sentence(of = "Promise 8", says = "the one with the most rows is the first one (of several the lowest one)")
    void theFirstCommonValue() {
        EqualHeights x = tableCut(4, 6, 9, 9, 0, 0, 99, 99, 99, 5, 5, 5);
        int[][] order = {{5, 3}, {99, 3}, {0, 2}, {9, 2}};
        for (int common = 0; common < 4; common++) {
            due("value " + common, x.common(0, common, 0), order[common][0]);
            due("rows " + common, x.common(0, common, 1), order[common][1]);
        }
    }

    @Sentence(of = "Promise 8", says = "column: 0 or 1 - what: 0 the value, 1 its rows")
    void columnsAndWhatsOfCommon() {
        EqualHeights x = tableOfPairs(pairOf(7, 8), pairOf(7, 8), pairOf(7, 9));
        x.analyse();
        due("column 0, the value", x.common(0, 0, 0), 7);
        due("column 0, its rows", x.common(0, 0, 1), 3);
        due("column 1, the value", x.common(1, 0, 0), 8);
        due("column 1, its rows", x.common(1, 0, 1), 2);
        for (int wrong : new int[] {-1, 2, MIN, MAX}) {
            due("column " + wrong, x.common(wrong, 0, 1), -2);
            due("what " + wrong, x.common(1, 0, wrong), -2);
        }
    }

    @Sentence(of = "Promise 8", says = "BAD_VALUE if column or what is out of range; NO_SUCH if there is no such one.")
    void noSuchCommonValue() {
        EqualHeights x = tableCut(4, 6, 1, 1, 2, 2, 3, 3, 4, 4, 5, 5, 6, 6, 7, 7);
        due("the last", x.common(0, 5, 0), 6);
        for (int common : new int[] {-1, 6, MIN, MAX}) {
            due("common " + common, x.common(0, common, 0), -1);
            due("common " + common + ", column 2", x.common(2, common, 0), -2);
            due("common " + common + ", what 2", x.common(0, common, 2), -2);
        }
        for (int column : new int[] {-1, 2, MIN, MAX}) {
            due("column " + column, x.common(column, 0, 0), -2);
        }
        for (int what : new int[] {-1, 2, MIN, MAX}) {
            due("what " + what, x.common(0, 0, what), -2);
        }
        due("none of the column 1", x.common(1, 0, 0), -1);
        x.set(1, 1);
        x.analyse();
        due("the last of fewer", x.common(0, 0, 0), 1);
        due("none that was there before", x.common(0, 1, 0), -1);
        due("without an analysis", tableOf(1, 1).common(0, 0, 0), -1);
        due("without an analysis, bad", tableOf(1, 1).common(0, 0, 2), -2);
    }

    // ---- Promise 9: pair

    @Sentence(of = "Promise 9", says = "in the order in which they are chosen. - what: 0, 1 its values, 2 its rows")
    void pairsAsTheyAreChosen() {
        EqualHeights x = tableOfPairs(pairOf(9, 0), pairOf(9, 0), pairOf(0, 9), pairOf(0, 9), pairOf(0, 8), pairOf(0, 8),
            pairOf(50, 50), pairOf(50, 50), pairOf(50, 50));
        x.set(2, 6);
        x.analyse();
        int[][] pairs = {{50, 50, 3}, {0, 8, 2}, {0, 9, 2}, {9, 0, 2}};
        for (int pair = 0; pair < 4; pair++) {
            for (int what = 0; what < 3; what++) {
                due("pair " + pair + ", what " + what, x.pair(pair, what), pairs[pair][what]);
            }
        }
        due("no pair 4", x.pair(4, 0), -1);
    }

    @Sentence(of = "Promise 9", says = "BAD_VALUE if what is out of range; NO_SUCH if there is no such pair.")
    void noSuchPair() {
        EqualHeights x = new EqualHeights();
        for (int row = 0; row < 14; row++) {
            x.insert(row / 2, 50 + row / 2);
        }
        x.set(2, 6);
        x.analyse();
        due("the last, column 0", x.pair(5, 0), 5);
        due("the last, column 1", x.pair(5, 1), 55);
        due("the last, rows", x.pair(5, 2), 2);
        for (int pair : new int[] {-1, 6, MIN, MAX}) {
            due("pair " + pair, x.pair(pair, 0), -1);
            due("pair " + pair + ", what 3", x.pair(pair, 3), -2);
        }
        for (int what : new int[] {-1, 3, MIN, MAX}) {
            due("what " + what, x.pair(0, what), -2);
        }
        x.set(2, 1);
        x.analyse();
        due("the last of fewer", x.pair(0, 1), 50);
        due("none that was there before", x.pair(1, 1), -1);
        due("without an analysis", new EqualHeights().pair(0, 0), -1);
        due("without an analysis, bad", new EqualHeights().pair(0, 3), -2);
    }

    // ---- Promise 10: count

    @Sentence(of = "Promise 10", says = "0 rows, 1 analysed rows (0 without an analysis), 2 rows that came and went since the "
        + "analysis (0 without one), 3 whether it is stale (1 or 0; NONE without one)")
    void countsWithoutAnAnalysis() {
        EqualHeights x = tableOf(1, 2, 3);
        x.remove(0);
        due("rows", x.count(0), 2);
        due("analysed rows", x.count(1), 0);
        due("came and went", x.count(2), 0);
        due("stale", x.count(3), -6);
        x.analyse();
        due("analysed rows", x.count(1), 2);
        due("came and went before it", x.count(2), 0);
        due("stale", x.count(3), 0);
        x.remove(0);
        due("rows", x.count(0), 1);
        due("analysed rows", x.count(1), 2);
        due("went", x.count(2), 1);
        due("stale", x.count(3), 1);
        x.undo();
        x.undo();
        due("undone: analysed rows", x.count(1), 0);
        due("undone: came and went", x.count(2), 0);
        due("undone: stale", x.count(3), -6);
    }

    @Sentence(of = "Promise 10", says = "4, 5 buckets of the columns 0 and 1, 6, 7 their common values, 8 pairs, 9 to 12 the "
        + "settings, 13 the length of the pad, 14 how many changes can be undone")
    void whatsOfCount() {
        EqualHeights x = tableOfPairs(pairOf(1, 1), pairOf(1, 1), pairOf(1, 2), pairOf(2, 2), pairOf(2, 3), pairOf(3, 4),
            pairOf(3, 5), pairOf(4, 6));
        x.set(0, 5);
        x.set(1, 3);
        x.set(2, 6);
        x.set(3, 100);
        x.analyse();
        write(x, "a;a");
        int[] counts = {8, 8, 0, 0, 1, 4, 3, 2, 1, 5, 3, 6, 100, 3, 6};
        for (int what = 0; what < counts.length; what++) {
            due("count(" + what + ")", x.count(what), counts[what]);
        }
    }

    @Sentence(of = "Promise 10", says = "BAD_VALUE if what is out of range.")
    void wrongWhatsOfCount() {
        for (int what : new int[] {-1, 15, MIN, MAX}) {
            due("count(" + what + ")", tableAnalysed(1).count(what), -2);
            due("count(" + what + ") of nothing", new EqualHeights().count(what), -2);
        }
    }

    // ---- Promise 21: undo

    /** Sets STALE to from, from + 1 and so on, so that STALE tells which change was the last. */
    private static void setStale(EqualHeights x, int from, int changes) {
        for (int i = 0; i < changes; i++) {
            x.set(STALE, from + i);
        }
    }

    @Sentence(of = "Promise 21", says = "A history of at most 6 states is kept")
    void atMostSixStates() {
        for (int changes = 0; changes <= 9; changes++) {
            EqualHeights x = new EqualHeights();
            setStale(x, 1, changes);
            int kept = Math.min(changes, 6);
            due("after " + changes, x.count(14), kept);
            for (int left = kept - 1; left >= 0; left--) {
                due("undo after " + changes, x.undo(), left);
                int before = changes - kept + left;
                due("STALE then", x.count(12), before == 0 ? 20 : before);
            }
            due("no more after " + changes, x.undo(), -5);
        }
    }

    @Sentence(of = "Promise 21", says = "each method that is a change, and returns no error, records the state before it (also if "
        + "nothing is different then)")
    void eachChangeIsRecorded() {
        EqualHeights x = new EqualHeights();
        x.insert(1, 1);
        due("insert", x.count(14), 1);
        x.analyse();
        due("analyse", x.count(14), 2);
        x.remove(0);
        due("remove", x.count(14), 3);
        x.set(0, 4);
        due("set to what it is", x.count(14), 4);
        x.save(0);
        due("save is no change", x.count(14), 4);
        x.restore(0);
        due("restore to what it is", x.count(14), 5);
        due("carryOut of nothing", carriedOut(x, "-9"), 0);
        due("carryOut of nothing", x.count(14), 6);
        int[] rows = {0, 0, 0, 1, 1, 0};
        int[] analysed = {1, 1, 1, 1, 0, 0};
        for (int i = 0; i < 6; i++) {
            due("undo", x.undo(), 5 - i);
            due("rows", x.count(0), rows[i]);
            due("analysed rows", x.count(1), analysed[i]);
        }
        EqualHeights same = tableAnalysed(1);
        same.analyse();
        due("analyse once more, with nothing different", same.count(14), 3);
    }

    @Sentence(of = "Promise 21", says = "each method that is a change, and returns no error, records the state before it")
    void errorsAreNotRecorded() {
        EqualHeights x = new EqualHeights();
        x.set(0, 0);
        x.insert(100, 0);
        x.remove(0);
        x.analyse();
        x.carryOut();
        x.restore(0);
        x.restore(2);
        x.save(2);
        x.undo();
        due("nothing is recorded", x.count(14), 0);
        EqualHeights full = tableOfRows(60);
        full.insert(1, 1);
        due("the oldest one is not dropped", full.count(14), 6);
        for (int left = 5; left >= 0; left--) {
            due("undo", full.undo(), left);
            due("rows", full.count(0), 54 + left);
        }
    }

    @Sentence(of = "Promise 21", says = "when one more is recorded, the oldest one is dropped")
    void theOldestOneIsDropped() {
        EqualHeights x = new EqualHeights();
        setStale(x, 30, 6);
        due("six", x.count(14), 6);
        setStale(x, 36, 1);
        due("still six", x.count(14), 6);
        for (int left = 5; left >= 0; left--) {
            due("undo", x.undo(), left);
            due("STALE then", x.count(12), 30 + left);
        }
        due("the first state was dropped", x.undo(), -5);
        due("STALE stays", x.count(12), 30);
    }

    @Sentence(of = "Promise 21", says = "when one more is recorded, the oldest one is dropped")
    void roundAndRound() {
        // Many times more changes than states, with undo in between, so that each place comes up in each role.
        EqualHeights x = new EqualHeights();
        int[] kept = new int[7];
        int held = 0;
        int stale = 20;
        for (int step = 0; step < 60; step++) {
            for (int i = 0; i < 1 + step % 8; i++) {
                if (held == 6) {
                    System.arraycopy(kept, 1, kept, 0, 5);
                    held = 5;
                }
                kept[held] = stale;
                held++;
                stale = (stale * 7 + step) % 101;
                x.set(STALE, stale);
            }
            for (int i = 0; i < step % 5 && held > 0; i++) {
                held--;
                stale = kept[held];
                due("undo in step " + step, x.undo(), held);
            }
            due("STALE in step " + step, x.count(12), stale);
        }
    }

    @Sentence(of = "Promise 21", says = "An order of a text records nothing by itself.")
    void ordersRecordNothing() {
        EqualHeights x = new EqualHeights();
        due("orders", carriedOut(x, "+1,1;+2,2;a;b9;-0;c1;p1;a"), 8);
        due("one change alone", x.count(14), 1);
        due("undo", x.undo(), 0);
        due("all of them are undone", x.count(0), 0);
        due("nothing more to undo", x.undo(), -5);
        EqualHeights full = tableOfRows(7);
        carriedOut(full, "-0;-0;-0;-0;-0;-0;-0");
        due("rows", full.count(0), 0);
        due("undo", full.undo(), 5);
        due("rows then", full.count(0), 7);
        due("undo", full.undo(), 4);
        due("the older states were not pushed out", full.count(0), 6);
    }

    @Sentence(of = "Promise 21", says = "everything except the pad, the slots and the history is as it was before it")
    void everythingIsAsItWas() {
        String before = everything(tableOfTwenty());
        EqualHeights x = tableOfTwenty();
        due("orders", carriedOut(x, ALL_DIFFERENT), 10);
        String changed = everything(x);
        holds("all is different: " + changed, !changed.equals(before));
        due("undo", x.undo(), 5);
        String undone = everything(x);
        holds("all is as it was: " + undone + " for " + before, undone.equals(before));
        EqualHeights other = tableOfTwenty();
        carriedOut(other, ALL_DIFFERENT);
        carriedOut(other, "b1;c0;p0;a");
        due("undo", other.undo(), 5);
        undone = everything(other);
        holds("all is as it was: " + undone + " for " + changed, undone.equals(changed));
    }

    @Sentence(of = "Promise 21", says = "everything except the pad, the slots and the history is as it was before it")
    void padAndSlotsStay() {
        EqualHeights x = new EqualHeights();
        x.insert(1, 1);
        write(x, "b9");
        x.save(0);
        x.insert(2, 2);
        x.save(1);
        due("undo", x.undo(), 1);
        due("undo", x.undo(), 0);
        due("the pad stays", x.count(13), 2);
        due("the slot 1 stays", x.restore(1), 2);
        due("the slot 0 stays", x.restore(0), 1);
        due("the pad is what it was", x.carryOut(), 1);
        due("BUCKETS", x.count(9), 9);
        due("undo of carryOut", x.undo(), 2);
        due("the pad stays empty", x.count(13), 0);
        due("BUCKETS", x.count(9), 4);
    }

    @Sentence(of = "Promise 21", says = "Returns how many changes can be undone then; NOT_POSSIBLE if there is none.")
    void nothingToUndo() {
        EqualHeights x = new EqualHeights();
        due("of a new object", x.undo(), -5);
        x.insert(1, 1);
        due("the only one", x.undo(), 0);
        due("none any more", x.undo(), -5);
        due("undo is no change", x.count(14), 0);
        due("rows", x.count(0), 0);
        x.insert(2, 2);
        due("a new one", x.undo(), 0);
    }

    // ---- Promise 22: save

    @Sentence(of = "Promise 22", says = "Saves everything except the pad, the history and the slots in a slot, and overwrites what "
        + "was saved there.")
    void saveOverwrites() {
        EqualHeights x = tableOfRows(3);
        x.save(0);
        x.save(1);
        write(x, "a;");
        carriedOut(x, "-0");
        due("an empty pad stays empty", x.count(13), 0);
        write(x, "b1");
        due("saved again", x.save(0), 2);
        x.remove(0);
        due("the new one", x.restore(0), 2);
        due("its first row", x.row(0, 0), 1);
        due("the other slot has the old one", x.restore(1), 3);
        due("its first row", x.row(0, 0), 0);
        due("the pad does not come back", x.count(13), 2);
        due("the history does not come back", x.count(14), 6);
        due("undo goes back to before restore", x.undo(), 5);
        due("rows then", x.count(0), 2);
    }

    @Sentence(of = "Promise 22", says = "Saves everything except the pad, the history and the slots in a slot")
    void everythingIsSaved() {
        for (int slot = 0; slot < 2; slot++) {
            EqualHeights x = tableOfTwenty();
            String saved = everything(x);
            due("save", x.save(slot), 21);
            carriedOut(x, ALL_DIFFERENT);
            String changed = everything(x);
            due("restore", x.restore(slot), 21);
            String restored = everything(x);
            holds("all is as it was saved: " + restored + " for " + saved, restored.equals(saved));
            due("undo", x.undo(), 5);
            String undone = everything(x);
            holds("all is as it was changed: " + undone + " for " + changed, undone.equals(changed));
        }
    }

    @Sentence(of = "Promise 22", says = "slot: 0 or 1")
    void twoSlotsToSave() {
        EqualHeights x = tableOf(1);
        due("slot 0", x.save(0), 1);
        x.insert(2, 2);
        due("slot 1", x.save(1), 2);
        due("what is in slot 0", x.restore(0), 1);
        due("what is in slot 1", x.restore(1), 2);
        due("slot -1", x.save(-1), -2);
        due("slot 2", x.save(2), -2);
    }

    @Sentence(of = "Promise 22", says = "Returns how many rows there are; BAD_VALUE if there is no such slot.")
    void noSuchSlotToSave() {
        EqualHeights x = tableOfRows(60);
        for (int slot : new int[] {-1, 2, MIN, MAX}) {
            due("slot " + slot, x.save(slot), -2);
        }
        due("slot 0", x.save(0), 60);
        due("slot 1", x.save(1), 60);
        due("no rows", new EqualHeights().save(1), 0);
        due("save is no change", x.count(14), 6);
    }

    // ---- Promise 23: restore

    @Sentence(of = "Promise 23", says = "Restores what was saved last in a slot, which keeps it. This is a change.")
    void slotKeepsWhatWasSaved() {
        EqualHeights x = tableAnalysed(5, 5, 8);
        x.remove(0);
        x.save(1);
        String saved = everything(x);
        x.insert(1, 1);
        x.set(0, 9);
        x.analyse();
        String changed = everything(x);
        due("restore", x.restore(1), 2);
        holds("all is as it was saved", everything(x).equals(saved));
        due("undo of restore", x.undo(), 5);
        holds("all is as it was before restore", everything(x).equals(changed));
        due("restore once more", x.restore(1), 2);
        x.insert(1, 1);
        x.analyse();
        due("restore after changes", x.restore(1), 2);
        holds("all is as it was saved", everything(x).equals(saved));
        due("restore with nothing different", x.restore(1), 2);
        due("is a change, too", x.count(14), 6);
    }

    @Sentence(of = "Promise 23", says = "slot: 0 or 1")
    void twoSlotsToRestore() {
        EqualHeights x = tableOf(1);
        x.save(1);
        x.insert(2, 2);
        x.save(0);
        due("slot -1", x.restore(-1), -2);
        due("slot 2", x.restore(2), -2);
        due("slot 1", x.restore(1), 1);
        due("slot 0", x.restore(0), 2);
        due("two changes more", x.count(14), 4);
    }

    @Sentence(of = "Promise 23", says = "Returns how many rows there are then; BAD_VALUE if there is no such slot; NOT_POSSIBLE if "
        + "nothing was saved in it.")
    void nothingSavedInIt() {
        EqualHeights x = tableOf(1);
        for (int slot : new int[] {-1, 2, MIN, MAX}) {
            due("slot " + slot, x.restore(slot), -2);
        }
        due("nothing in slot 0", x.restore(0), -5);
        due("nothing in slot 1", x.restore(1), -5);
        x.save(0);
        due("slot 0", x.restore(0), 1);
        due("still nothing in slot 1", x.restore(1), -5);
        x.undo();
        x.undo();
        due("undo does not undo save", x.restore(0), 1);
        EqualHeights empty = new EqualHeights();
        empty.save(1);
        due("no rows were saved", empty.restore(1), 0);
        due("nothing in slot 0", empty.restore(0), -5);
        EqualHeights full = tableOfRows(60);
        full.save(1);
        full.remove(0);
        due("sixty rows", full.restore(1), 60);
    }
}
