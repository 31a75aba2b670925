import java.io.IOException;

/** The sentences of the document's terms that name a boundary: Conventions, Settings, Table and Analysis. */
public final class TermsBoundaryTest extends Sentences {
    private static final int BUCKETS = EqualHeights.BUCKETS;
    private static final int COMMON = EqualHeights.COMMON;
    private static final int PAIRS = EqualHeights.PAIRS;
    private static final int STALE = EqualHeights.STALE;

    public static void main(String[] args) throws IOException {
        new TermsBoundaryTest().runAll();
    }

    // ---- What it is

    @Sentence(of = "What it is", says = "An object is used for at most 512 calls after it has been made")
    void theLastCallsAreAnsweredToo() {
        EqualHeights x = new EqualHeights();
        for (int call = 0; call < 506; call += 2) {
            x.insert(call % 60, 7);
            x.remove(0);
        }
        due("call 507: insert", x.insert(1, 2), 0);
        due("call 508: analyse", x.analyse(), 1);
        due("call 509: save", x.save(0), 1);
        due("call 510: restore", x.restore(0), 1);
        due("call 511: undo", x.undo(), 5);
        due("call 512: row", x.row(0, 1), 2);
    }

    @Sentence(of = "What it is", says = "An object is used for at most 512 calls after it has been made")
    void everyCallCanBeAChange() {
        EqualHeights x = new EqualHeights();
        for (int call = 0; call < 511; call++) {
            due("set in call " + (call + 1), x.set(STALE, call % 101), call == 0 ? 20 : (call - 1) % 101);
        }
        due("count in call 512", x.count(12), 510 % 101);
    }

    @Sentence(of = "What it is", says = "what later calls answer is free")
    void laterCallsEndWithoutAnException() {
        EqualHeights x = new EqualHeights();
        for (int call = 0; call < 5000; call++) {
            x.insert(call % 100, call % 7);
            x.analyse();
            x.save(call % 2);
            x.restore(call % 2);
            x.put(0x61);
            x.carryOut();
        }
        holds("it came to an end", true);
    }

    // ---- Conventions

    @Sentence(of = "Terms", says = "A method that fails returns one of the error codes NO_SUCH (-1), BAD_VALUE (-2), "
        + "BAD_TEXT (-3), TOO_MANY (-4) and NOT_POSSIBLE (-5)")
    void errorCodes() {
        due("NO_SUCH", EqualHeights.NO_SUCH, -1);
        due("BAD_VALUE", EqualHeights.BAD_VALUE, -2);
        due("BAD_TEXT", EqualHeights.BAD_TEXT, -3);
        due("TOO_MANY", EqualHeights.TOO_MANY, -4);
        due("NOT_POSSIBLE", EqualHeights.NOT_POSSIBLE, -5);
        due("no such row", new EqualHeights().remove(0), -1);
        due("a bad value", new EqualHeights().insert(100, 0), -2);
        due("a bad text", new EqualHeights().carryOut(), -3);
        due("too many rows", tableOfRows(60).insert(0, 0), -4);
        due("nothing to undo", new EqualHeights().undo(), -5);
    }

    @Sentence(of = "Terms", says = "it names its errors in the order in which they are checked, and the first one that "
        + "applies is returned")
    void theFirstOfTwoErrors() {
        EqualHeights full = tableOfRows(60);
        due("insert: BAD_VALUE, then TOO_MANY", full.insert(0, 100), -2);
        due("row: NO_SUCH, then BAD_VALUE", full.row(60, 2), -1);
        due("bucket: BAD_VALUE of column, then NO_SUCH", full.bucket(2, 0, 0), -2);
        due("bucket: BAD_VALUE of what, then NO_SUCH", full.bucket(0, 0, 4), -2);
        due("common: BAD_VALUE of column, then NO_SUCH", full.common(-1, 0, 0), -2);
        due("common: BAD_VALUE of what, then NO_SUCH", full.common(0, 0, 2), -2);
        due("pair: BAD_VALUE, then NO_SUCH", full.pair(0, 3), -2);
        due("fewest: BAD_VALUE of column, then NOT_POSSIBLE", new EqualHeights().fewest(2, 0), -2);
        due("fewest: BAD_VALUE of far, then NOT_POSSIBLE", new EqualHeights().fewest(0, 61), -2);
        due("restore: BAD_VALUE, then NOT_POSSIBLE", full.restore(2), -2);
        for (int i = 0; i < 10; i++) {
            write(full, "aaaaaaaa");
        }
        due("put: BAD_VALUE of a code, then TOO_MANY", full.put(32), -2);
        due("put: BAD_VALUE of no character, then TOO_MANY", full.put(0), -2);
    }

    @Sentence(of = "Terms", says = "NONE (-6) is not an error; it is returned only if no error applies.")
    void errorsComeBeforeNone() {
        due("NONE", EqualHeights.NONE, -6);
        EqualHeights x = tableOf(1, 2);
        due("estimate, column", x.estimate(2, 0, 1, 0), -2);
        due("estimate, bounds", x.estimate(0, 1, 0, 3), -2);
        due("estimate, what", x.estimate(0, 0, 1, 5), -2);
        due("both, bounds", x.both(0, 1, 0, 100, 0), -2);
        due("both, what", x.both(0, 1, 0, 1, -1), -2);
        due("share", x.share(0, -1, 1), -2);
        due("worst, column", x.worst(-1, 0), -2);
        due("worst, what", x.worst(0, 2), -2);
        EqualHeights spread = tableOf(0, 9, 18, 27, 36, 45, 54, 63, 72, 81, 90);
        due("fewest, far", spread.fewest(0, -1), -2);
        due("fewest, column", spread.fewest(2, 0), -2);
        due("fewest, none", spread.fewest(0, 0), -6);
    }

    @Sentence(of = "Terms", says = "Everything is numbered from 0.")
    void numberedFromZero() {
        EqualHeights x = tableOfPairs(pairOf(5, 6), pairOf(5, 6), pairOf(7, 8));
        x.analyse();
        due("the row 0", x.row(0, 0), 5);
        due("no row -1", x.row(-1, 0), -1);
        due("the last row", x.row(2, 0), 7);
        due("no row 3", x.row(3, 0), -1);
        due("the bucket 0", x.bucket(0, 0, 0), 7);
        due("no bucket 1", x.bucket(0, 1, 0), -1);
        due("the common value 0", x.common(1, 0, 0), 6);
        due("no common value 1", x.common(1, 1, 0), -1);
        due("the pair 0", x.pair(0, 1), 6);
        due("no pair 1", x.pair(1, 1), -1);
        due("the slot 0", x.save(0), 3);
        due("no slot 2", x.save(2), -2);
        due("the setting 0", x.set(0, 4), 4);
        due("no setting 4", x.set(4, 4), -2);
        due("the new row", x.insert(1, 1), 3);
    }

    @Sentence(of = "Terms", says = "Divisions are rounded down.")
    void roundedDown() {
        EqualHeights x = tableCut(1, 0, 10, 19);
        due("2 * 9 / 10", x.estimate(0, 10, 18, 0), 1);
        due("2 * 10 / 10", x.estimate(0, 10, 19, 0), 2);
        x.remove(0);
        due("scaled, 1 * 1 / 2", x.estimate(0, 10, 18, 3), 0);
        due("scaled, 2 * 1 / 2", x.estimate(0, 10, 19, 3), 1);
        due("both, (1 - 0) * (1 - 0) / 2", x.both(10, 18, 0, 0, 0), 0);
    }

    // ---- Settings

    private void rangeOf(int setting, int least, int greatest, int first) {
        EqualHeights x = new EqualHeights();
        due("the first value", x.count(9 + setting), first);
        due("too small", x.set(setting, least - 1), -2);
        due("too large", x.set(setting, greatest + 1), -2);
        due("far too small", x.set(setting, MIN), -2);
        due("far too large", x.set(setting, MAX), -2);
        due("it stays", x.count(9 + setting), first);
        due("the least", x.set(setting, least), first);
        due("it is set", x.count(9 + setting), least);
        due("the greatest", x.set(setting, greatest), least);
        due("it is set", x.count(9 + setting), greatest);
        for (int other = 0; other < 4; other++) {
            holds("the setting " + other + " stays", other == setting || x.count(9 + other) == new EqualHeights().count(9 + other));
        }
    }

    @Sentence(of = "Settings", says = "BUCKETS (1 to 10; 4)")
    void rangeOfBuckets() {
        due("BUCKETS", BUCKETS, 0);
        rangeOf(BUCKETS, 1, 10, 4);
        EqualHeights x = tableOfRows(20);
        x.analyse();
        due("buckets at first", x.count(4), 4);
        x.set(BUCKETS, 1);
        x.analyse();
        due("one bucket", x.count(4), 1);
        due("with all rows", x.bucket(0, 0, 2), 20);
        x.set(BUCKETS, 10);
        x.analyse();
        due("ten buckets", x.count(5), 10);
        due("the last of them", x.bucket(1, 9, 1), 19);
    }

    @Sentence(of = "Settings", says = "COMMON (0 to 6; 2)")
    void rangeOfCommon() {
        due("COMMON", COMMON, 1);
        rangeOf(COMMON, 0, 6, 2);
        EqualHeights x = tableOf(1, 1, 2, 2, 3, 3, 4, 4, 5, 5, 6, 6, 7, 7);
        x.analyse();
        due("common values at first", x.count(6), 2);
        x.set(COMMON, 0);
        x.analyse();
        due("no common value", x.count(6), 0);
        x.set(COMMON, 6);
        x.analyse();
        due("six common values", x.count(6), 6);
        due("the last of them", x.common(0, 5, 0), 6);
    }

    @Sentence(of = "Settings", says = "PAIRS (0 to 6; 2)")
    void rangeOfPairs() {
        due("PAIRS", PAIRS, 2);
        rangeOf(PAIRS, 0, 6, 2);
        EqualHeights x = new EqualHeights();
        for (int row = 0; row < 14; row++) {
            x.insert(row / 2, row / 2);
        }
        x.analyse();
        due("pairs at first", x.count(8), 2);
        x.set(PAIRS, 0);
        x.analyse();
        due("no pair", x.count(8), 0);
        x.set(PAIRS, 6);
        x.analyse();
        due("six pairs", x.count(8), 6);
        due("the last of them", x.pair(5, 0), 5);
    }

    @Sentence(of = "Settings", says = "STALE (0 to 100; 20)")
    void rangeOfStale() {
        due("STALE", STALE, 3);
        rangeOf(STALE, 0, 100, 20);
    }

    // ---- Table

    @Sentence(of = "Table", says = "The table has up to 60 rows")
    void sixtyRows() {
        EqualHeights x = tableOfRows(59);
        due("the last one", x.insert(98, 99), 59);
        due("rows", x.count(0), 60);
        due("its values", x.row(59, 0), 98);
        due("its values", x.row(59, 1), 99);
        due("one more", x.insert(0, 0), -4);
        due("rows", x.count(0), 60);
        due("analysed", x.analyse(), 60);
        due("all of them", x.estimate(0, 0, 99, 4), 60);
    }

    @Sentence(of = "Table", says = "numbered in the order in which they came (when one goes, those behind it move up)")
    void thoseBehindMoveUp() {
        int[][] left = {{1, 2, 3}, {0, 2, 3}, {0, 1, 3}, {0, 1, 2}};
        for (int gone = 0; gone < 4; gone++) {
            EqualHeights x = tableOf(10, 11, 12, 13);
            x.remove(gone);
            for (int row = 0; row < 3; row++) {
                due("without row " + gone + ", row " + row, x.row(row, 0), 10 + left[gone][row]);
                due("without row " + gone + ", row " + row, x.row(row, 1), left[gone][row]);
            }
            due("the next one comes last", x.insert(50, 51), 3);
            due("the next one comes last", x.row(3, 1), 51);
        }
        EqualHeights full = tableOfRows(60);
        full.remove(0);
        due("the first of sixty went, first row", full.row(0, 0), 1);
        due("the first of sixty went, last row", full.row(58, 0), 59);
        due("no row 59", full.row(59, 0), -1);
    }

    @Sentence(of = "Table", says = "A row has a value in each of two columns, 0 and 1: 0 to 99 each.")
    void valuesFromZeroTo99() {
        EqualHeights x = new EqualHeights();
        due("both least", x.insert(0, 0), 0);
        due("both greatest", x.insert(99, 99), 1);
        due("least and greatest", x.insert(0, 99), 2);
        due("greatest and least", x.insert(99, 0), 3);
        int[][] values = {{0, 0}, {99, 99}, {0, 99}, {99, 0}};
        for (int row = 0; row < 4; row++) {
            due("row " + row, x.row(row, 0), values[row][0]);
            due("row " + row, x.row(row, 1), values[row][1]);
        }
        due("too small in the column 0", x.insert(-1, 0), -2);
        due("too small in the column 1", x.insert(0, -1), -2);
        due("too large in the column 0", x.insert(100, 0), -2);
        due("too large in the column 1", x.insert(0, 100), -2);
    }

    // ---- Analysis

    @Sentence(of = "Analysis", says = "An analysis remembers of the rows that there are (the analysed rows), until the "
        + "next one")
    void rememberedUntilTheNextOne() {
        EqualHeights x = tableOf(5, 5, 8);
        x.analyse();
        x.remove(0);
        x.remove(0);
        x.remove(0);
        due("no rows now", x.count(0), 0);
        due("analysed rows", x.count(1), 3);
        due("common value", x.common(0, 0, 1), 2);
        due("bucket", x.bucket(0, 0, 0), 8);
        due("no next one", x.analyse(), -5);
        due("still remembered", x.bucket(0, 0, 0), 8);
        x.insert(3, 3);
        due("still remembered", x.bucket(0, 0, 0), 8);
        due("the next one", x.analyse(), 1);
        due("analysed rows", x.count(1), 1);
        due("no common value", x.count(6), 0);
        due("bucket", x.bucket(0, 0, 0), 3);
        due("only one", x.count(4), 1);
    }

    /** Ten buckets in each column, six common values in each, six pairs. */
    private static EqualHeights tableWithMostOfAll() {
        EqualHeights x = new EqualHeights();
        for (int row = 0; row < 12; row++) {
            x.insert(row / 2, 90 + row / 2);
        }
        for (int row = 0; row < 20; row++) {
            x.insert(10 + row, 60 + row);
        }
        carriedOut(x, "b10;c6;p6;a");
        return x;
    }

    @Sentence(of = "Analysis", says = "An analysis remembers of the rows that there are (the analysed rows), until the "
        + "next one")
    void nothingIsLeftOfTheOneBefore() {
        EqualHeights x = tableWithMostOfAll();
        for (int column = 0; column < 2; column++) {
            due("buckets", x.count(4 + column), 10);
            due("common values", x.count(6 + column), 6);
            for (int what = 0; what < 3; what++) {
                due("all rows, what " + what, x.estimate(column, 0, 99, what), 32);
            }
            due("height", x.height(column), Double.doubleToLongBits(2.0));
        }
        due("pairs", x.count(8), 6);
        due("12 + 20 * 20 / 20", x.both(0, 99, 0, 99, 0), 32);
        carriedOut(x, "b1;c1;p1;a");
        due("fewer pairs: 2 + 30 * 30 / 30", x.both(0, 99, 0, 99, 0), 32);
        due("one pair alone: 2 + (2 - 2) * 30 / 30", x.both(0, 0, 0, 99, 0), 2);
        for (int column = 0; column < 2; column++) {
            due("one bucket", x.count(4 + column), 1);
            due("no second one", x.bucket(column, 1, 0), -1);
            due("one common value", x.count(6 + column), 1);
            due("no second one", x.common(column, 1, 0), -1);
            for (int what = 0; what < 3; what++) {
                due("all rows, what " + what, x.estimate(column, 0, 99, what), 32);
            }
            due("height", x.height(column), Double.doubleToLongBits(30.0));
        }
        due("no second pair", x.pair(1, 0), -1);
    }

    @Sentence(of = "Analysis", says = "as many common values as COMMON tells, or fewer")
    void asManyCommonValuesOrFewer() {
        due("COMMON 2 of 3", tableCut(4, 2, 1, 1, 2, 2, 3, 3).count(6), 2);
        due("COMMON 3 of 3", tableCut(4, 3, 1, 1, 2, 2, 3, 3).count(6), 3);
        due("COMMON 4 of 3", tableCut(4, 4, 1, 1, 2, 2, 3, 3).count(6), 3);
        due("COMMON 6 of none", tableCut(4, 6, 1, 2, 3).count(6), 0);
        due("COMMON 0 of 3", tableCut(4, 0, 1, 1, 2, 2, 3, 3).count(6), 0);
    }

    @Sentence(of = "Analysis", says = "the values that the most rows have, of several the lowest ones")
    void theLowestOfSeveralCommonValues() {
        EqualHeights x = tableCut(4, 2, 9, 9, 0, 0, 99, 99, 50, 50, 50);
        due("most rows", x.common(0, 0, 0), 50);
        due("then the lowest one", x.common(0, 1, 0), 0);
        due("no third one", x.count(6), 2);
        due("the next one is in a bucket", x.bucket(0, 0, 0), 9);
        due("the last one is in a bucket", x.bucket(0, 3, 1), 99);
        EqualHeights one = tableCut(4, 1, 99, 99, 98, 98);
        due("the only one", one.common(0, 0, 0), 98);
        due("one row more", tableCut(4, 1, 99, 99, 98, 98, 99).common(0, 0, 0), 99);
    }

    @Sentence(of = "Analysis", says = "but only those that at least two rows have; each with how many rows have it")
    void commonWithTwoRowsAtLeast() {
        EqualHeights x = tableCut(4, 6, 1, 2, 2, 3, 3, 3);
        due("three rows", x.common(0, 0, 1), 3);
        due("two rows", x.common(0, 1, 1), 2);
        due("one row", x.common(0, 2, 1), -1);
        due("it is in a bucket", x.bucket(0, 0, 0), 1);
        EqualHeights all = new EqualHeights();
        for (int row = 0; row < 60; row++) {
            all.insert(99, 0);
        }
        all.analyse();
        due("all rows", all.common(0, 0, 1), 60);
        due("all rows", all.common(1, 0, 1), 60);
        due("the value", all.common(0, 0, 0), 99);
        due("the value", all.common(1, 0, 0), 0);
    }

    @Sentence(of = "Analysis", says = "the values of all rows that have none of its common values, in ascending order, "
        + "are cut into as many buckets as BUCKETS tells, one behind the other")
    void ascendingOneBehindTheOther() {
        EqualHeights x = tableCut(3, 1, 99, 7, 0, 7, 50, 7, 98, 1, 51);
        int[][] ends = {{0, 1}, {50, 51}, {98, 99}};
        due("buckets", x.count(4), 3);
        for (int bucket = 0; bucket < 3; bucket++) {
            due("lowest of " + bucket, x.bucket(0, bucket, 0), ends[bucket][0]);
            due("highest of " + bucket, x.bucket(0, bucket, 1), ends[bucket][1]);
            due("rows of " + bucket, x.bucket(0, bucket, 2), 2);
        }
        due("as many rows as buckets", tableCut(6, 1, 99, 7, 0, 7, 50, 7, 98, 1, 51).count(4), 6);
        due("buckets of the other column", x.bucket(1, 2, 1), 8);
        EqualHeights alike = tableCut(2, 0, 5, 5, 5, 5, 9, 9);
        due("the end of the first", alike.bucket(0, 0, 1), 5);
        due("the rest of the same value is in the next", alike.bucket(0, 1, 0), 5);
    }

    @Sentence(of = "Analysis", says = "if there are fewer such rows, there are only as many buckets as rows (none for none)")
    void onlyAsManyBucketsAsRows() {
        due("4 of 5 rows", tableCut(4, 1, 1, 2, 3, 4, 5).count(4), 4);
        due("4 of 4 rows", tableCut(4, 1, 1, 2, 3, 4).count(4), 4);
        due("4 of 3 rows", tableCut(4, 1, 1, 2, 3).count(4), 3);
        due("4 of 1 row", tableCut(4, 1, 1).count(4), 1);
        due("10 of 3 rows without the common ones", tableCut(10, 1, 7, 7, 7, 7, 1, 2, 3).count(4), 3);
        due("rows, not unlike values", tableCut(3, 0, 5, 5, 5).count(4), 3);
        EqualHeights none = tableCut(4, 1, 7, 7);
        due("none for none", none.count(4), 0);
        due("none for none", none.bucket(0, 0, 0), -1);
        due("but of the other column", none.count(5), 2);
    }

    @Sentence(of = "Analysis", says = "All buckets have as many rows, but if that does not come out even, the first ones "
        + "have one more.")
    void theFirstOnesHaveOneMore() {
        for (int rows = 1; rows <= 60; rows++) {
            EqualHeights x = tableOfRows(rows);
            int buckets = 1 + rows % 10;
            x.set(BUCKETS, buckets);
            x.analyse();
            int made = Math.min(rows, buckets);
            int next = 0;
            for (int bucket = 0; bucket < made; bucket++) {
                int height = rows / made + (bucket < rows % made ? 1 : 0);
                String which = rows + " rows, bucket " + bucket + " of " + made;
                due(which + ", rows", x.bucket(0, bucket, 2), height);
                due(which + ", lowest", x.bucket(0, bucket, 0), next);
                next += height;
                due(which + ", highest", x.bucket(0, bucket, 1), next - 1);
            }
        }
    }

    @Sentence(of = "Analysis", says = "A bucket has its lowest value, its highest value, its rows, and how many unlike "
        + "values they have")
    void whatABucketHas() {
        // In the column 0 one bucket each of: one row; equal rows; all unlike; the last two rows at 99.
        EqualHeights x = tableCut(3, 0, 0, 4, 4, 4, 4, 5, 99, 99);
        int[][] facts = {{0, 4, 3, 2}, {4, 5, 3, 2}, {99, 99, 2, 1}};
        for (int bucket = 0; bucket < 3; bucket++) {
            for (int what = 0; what < 4; what++) {
                due("bucket " + bucket + ", what " + what, x.bucket(0, bucket, what), facts[bucket][what]);
            }
        }
        EqualHeights one = tableCut(1, 0, 42);
        due("one row, lowest", one.bucket(0, 0, 0), 42);
        due("one row, highest", one.bucket(0, 0, 1), 42);
        due("one row, rows", one.bucket(0, 0, 2), 1);
        due("one row, unlike", one.bucket(0, 0, 3), 1);
        EqualHeights all = tableOfRows(60);
        all.set(BUCKETS, 1);
        all.analyse();
        due("sixty unlike values", all.bucket(0, 0, 3), 60);
    }

    private static EqualHeights tableOfSomePairs(int pairs) {
        EqualHeights x = tableOfPairs(pairOf(7, 2), pairOf(7, 2), pairOf(7, 0), pairOf(7, 0), pairOf(6, 99),
            pairOf(6, 99), pairOf(99, 99), pairOf(99, 99), pairOf(99, 99), pairOf(0, 0));
        x.set(PAIRS, pairs);
        x.analyse();
        return x;
    }

    @Sentence(of = "Analysis", says = "as many pairs as PAIRS tells, or fewer")
    void asManyPairsOrFewer() {
        due("PAIRS 0 of 4", tableOfSomePairs(0).count(8), 0);
        due("PAIRS 1 of 4", tableOfSomePairs(1).count(8), 1);
        due("PAIRS 4 of 4", tableOfSomePairs(4).count(8), 4);
        due("PAIRS 5 of 4", tableOfSomePairs(5).count(8), 4);
    }

    @Sentence(of = "Analysis", says = "of the pairs of values that rows have (in both columns) those that the most rows "
        + "have, of several those with the lowest value in the column 0, of these with the lowest one in the column 1")
    void theLowestOfSeveralPairs() {
        int[][] order = {{99, 99, 3}, {6, 99, 2}, {7, 0, 2}, {7, 2, 2}};
        for (int pairs = 1; pairs <= 4; pairs++) {
            EqualHeights x = tableOfSomePairs(pairs);
            for (int pair = 0; pair < pairs; pair++) {
                for (int what = 0; what < 3; what++) {
                    due("PAIRS " + pairs + ", pair " + pair + ", what " + what, x.pair(pair, what), order[pair][what]);
                }
            }
        }
    }

    @Sentence(of = "Analysis", says = "with the lowest one in the column 1, but only those that at least two rows have; "
        + "each with how many rows have it")
    void pairsWithTwoRowsAtLeast() {
        EqualHeights x = tableOfPairs(pairOf(1, 1), pairOf(1, 2), pairOf(2, 1), pairOf(3, 3), pairOf(3, 3));
        x.analyse();
        due("two rows", x.pair(0, 2), 2);
        due("its value", x.pair(0, 0), 3);
        due("no pair of one row, though both values are common", x.pair(1, 2), -1);
        due("no pair of one row", x.count(8), 1);
        EqualHeights all = new EqualHeights();
        for (int row = 0; row < 60; row++) {
            all.insert(99, 0);
        }
        all.analyse();
        due("all rows", all.pair(0, 2), 60);
        due("the values", all.pair(0, 0), 99);
        due("the values", all.pair(0, 1), 0);
    }

    @Sentence(of = "Analysis", says = "At first there is none.")
    void noAnalysisAtFirst() {
        EqualHeights x = tableOf(5, 5, 5);
        due("analysed rows", x.count(1), 0);
        due("came and went", x.count(2), 0);
        due("stale", x.count(3), -6);
        for (int what = 4; what <= 8; what++) {
            due("count(" + what + ")", x.count(what), 0);
        }
        due("bucket", x.bucket(0, 0, 0), -1);
        due("common value", x.common(0, 0, 0), -1);
        due("pair", x.pair(0, 0), -1);
        due("estimate", x.estimate(0, 0, 99, 0), -6);
    }

    private void staleFrom(int stale, int rows, int first) {
        EqualHeights x = tableOfRows(rows);
        x.set(STALE, stale);
        x.analyse();
        for (int changes = 0; changes <= first; changes++) {
            due("STALE " + stale + ", " + rows + " rows, " + changes + " changes", x.count(3), changes < first ? 0 : 1);
            due("came and went", x.count(2), changes);
            if (changes % 2 == 0) {
                x.remove(0);
            } else {
                x.insert(1, 1);
            }
        }
    }

    @Sentence(of = "Analysis", says = "The analysis is stale if 100 times the rows that came and went since (each coming "
        + "and each going counts) are more than STALE times the analysed rows.")
    void staleOnlyIfMore() {
        staleFrom(20, 10, 3);
        staleFrom(20, 9, 2);
        staleFrom(20, 1, 1);
        staleFrom(0, 10, 1);
        staleFrom(0, 60, 1);
        staleFrom(1, 60, 1);
        staleFrom(2, 60, 2);
        staleFrom(100, 10, 11);
        staleFrom(100, 1, 2);
        staleFrom(100, 60, 61);
        staleFrom(99, 60, 60);
    }

    @Sentence(of = "Analysis", says = "The analysis is stale if 100 times the rows that came and went since (each coming "
        + "and each going counts) are more than STALE times the analysed rows.")
    void refusedRowsDoNotCount() {
        EqualHeights x = tableOfRows(60);
        x.analyse();
        x.insert(1, 1);
        x.insert(100, 1);
        x.remove(60);
        due("nothing came or went", x.count(2), 0);
        x.remove(59);
        x.insert(1, 1);
        due("one went, one came", x.count(2), 2);
        due("rows", x.count(0), 60);
        x.analyse();
        due("since the next analysis", x.count(2), 0);
    }
}
