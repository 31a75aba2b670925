import java.io.IOException;

/** The sentences about estimates that name a boundary: Estimates, and the promises 11 to 16. */
public final class EstimatesBoundaryTest extends Sentences {
    private static final int COMMON = EqualHeights.COMMON;

    public static void main(String[] args) throws IOException {
        new EstimatesBoundaryTest().runAll();
    }

    /** Common: 50 with 3 rows. Buckets: 10 to 19 and 20 to 40, 3 rows each. */
    private static EqualHeights tableWithCommon50() {
        return tableCut(2, 2, 10, 15, 19, 20, 30, 40, 50, 50, 50);
    }

    /** Pairs: 5 and 5, 7 and 8, two rows each; four rows more, so that N is 8 and T is 4. */
    private static EqualHeights tableWithTwoPairs() {
        EqualHeights x = tableOfPairs(pairOf(5, 5), pairOf(5, 5), pairOf(7, 8), pairOf(7, 8), pairOf(5, 20),
            pairOf(6, 30), pairOf(20, 5), pairOf(30, 8));
        x.analyse();
        return x;
    }

    /** Neither column has common values; its only pair is in one bucket from 0 to 90, which tells fewer rows of it. */
    private static EqualHeights tableWithPairInBucket() {
        EqualHeights x = tableOfPairs(pairOf(10, 10), pairOf(10, 10), pairOf(0, 0), pairOf(90, 90));
        x.set(0, 1);
        x.set(COMMON, 0);
        x.analyse();
        return x;
    }

    // ---- Estimates

    @Sentence(of = "Estimates", says = "An estimate of the rows with a value between two bounds (both with them) in a column")
    void bothBoundsBelongToIt() {
        EqualHeights x = tableCut(2, 0, 5, 9);
        int[][] asked = {{5, 9, 2}, {6, 9, 1}, {5, 8, 1}, {6, 8, 0}, {5, 5, 1}, {9, 9, 1}, {4, 5, 1}, {9, 10, 1},
            {0, 4, 0}, {10, 99, 0}};
        for (int[] a : asked) {
            for (int what = 0; what < 5; what++) {
                due(a[0] + " to " + a[1] + ", what " + what, x.estimate(0, a[0], a[1], what), a[2]);
            }
        }
        EqualHeights ends = tableCut(2, 0, 0, 99);
        due("0 to 0", ends.estimate(0, 0, 0, 0), 1);
        due("99 to 99", ends.estimate(0, 99, 99, 0), 1);
        due("1 to 98", ends.estimate(0, 1, 98, 0), 0);
        due("0 to 99", ends.estimate(0, 0, 99, 0), 2);
    }

    @Sentence(of = "Estimates", says = "is made of the analysis")
    void madeOfTheAnalysis() {
        EqualHeights x = tableWithCommon50();
        x.set(0, 10);
        x.set(COMMON, 0);
        carriedOut(x, "-8;-0;-0;+99,99*9");
        int[] due = {6, 6, 6, 10, 4};
        for (int what = 0; what < 5; what++) {
            due("what " + what, x.estimate(0, 0, 49, what), due[what]);
        }
        due("no row of it is left", x.estimate(0, 99, 99, 2), 0);
    }

    @Sentence(of = "Estimates", says = "all rows of common values between the bounds; and of each bucket")
    void commonValuesAtTheBounds() {
        EqualHeights x = tableWithCommon50();
        for (int what = 0; what < 5; what++) {
            due("50 to 50, what " + what, x.estimate(0, 50, 50, what), 3);
            due("41 to 50, what " + what, x.estimate(0, 41, 50, what), 3);
            due("50 to 99, what " + what, x.estimate(0, 50, 99, what), 3);
            due("41 to 49, what " + what, x.estimate(0, 41, 49, what), 0);
            due("51 to 99, what " + what, x.estimate(0, 51, 99, what), 0);
        }
    }

    @Sentence(of = "Estimates", says = "of each bucket its rows times the values between the bounds and between its own "
        + "lowest and highest value (whole numbers, whether a row has them or not), divided by all whole numbers between "
        + "its lowest and highest value (with both)")
    void partOfABucket() {
        EqualHeights x = tableCut(1, 0, 10, 10, 10, 10, 10, 19, 19, 19, 19, 19);
        int[][] asked = {{0, 9, 0}, {0, 10, 1}, {10, 10, 1}, {10, 11, 2}, {11, 18, 8}, {14, 14, 1}, {10, 18, 9},
            {10, 19, 10}, {9, 20, 10}, {0, 99, 10}, {19, 19, 1}, {19, 99, 1}, {20, 99, 0}};
        for (int[] a : asked) {
            due(a[0] + " to " + a[1], x.estimate(0, a[0], a[1], 0), a[2]);
        }
        due("times first: 2 * 2 / 3", tableCut(1, 0, 10, 12).estimate(0, 10, 11, 0), 1);
        EqualHeights one = tableCut(1, 0, 7, 7, 7);
        due("one whole number alone", one.estimate(0, 7, 7, 0), 3);
        due("below it", one.estimate(0, 0, 6, 0), 0);
        due("above it", one.estimate(0, 8, 99, 0), 0);
        EqualHeights widest = tableOfRows(60);
        widest.remove(59);
        widest.insert(99, 99);
        widest.set(0, 1);
        widest.analyse();
        due("60 * 1 / 100", widest.estimate(0, 0, 0, 0), 0);
        due("60 * 2 / 100", widest.estimate(0, 0, 1, 0), 1);
        due("60 * 99 / 100", widest.estimate(0, 1, 99, 0), 59);
        due("60 * 100 / 100", widest.estimate(0, 0, 99, 0), 60);
    }

    @Sentence(of = "Estimates", says = "this is rounded down for each bucket by itself")
    void eachBucketByItself() {
        // Two buckets, 0 to 1 and 3 to 4, with 3 rows each.
        EqualHeights x = tableCut(2, 0, 0, 0, 1, 3, 3, 4);
        due("3 * 1 / 2", x.estimate(0, 1, 2, 0), 1);
        due("3 * 1 / 2 twice", x.estimate(0, 1, 3, 0), 2);
        due("3 * 2 / 2 and 3 * 1 / 2", x.estimate(0, 0, 3, 0), 4);
        due("two whole ones", x.estimate(0, 0, 4, 0), 6);
    }

    @Sentence(of = "Estimates", says = "The least is: all rows of common values between the bounds, and of the buckets that "
        + "lie between them as a whole all rows.")
    void leastOfWholeBuckets() {
        EqualHeights x = tableWithCommon50();
        int[][] asked = {{20, 40, 3}, {21, 40, 0}, {20, 39, 0}, {19, 41, 3}, {10, 40, 6}, {11, 40, 3}, {10, 39, 3},
            {11, 39, 0}, {0, 99, 9}, {20, 50, 6}, {20, 49, 3}, {21, 50, 3}, {41, 49, 0}};
        for (int[] a : asked) {
            due(a[0] + " to " + a[1], x.estimate(0, a[0], a[1], 1), a[2]);
        }
        due("a bucket of one value", tableCut(1, 0, 7, 7).estimate(0, 7, 7, 1), 2);
    }

    @Sentence(of = "Estimates", says = "The most is: the same, but of all buckets of which some whole number (lowest to "
        + "highest value) lies between the bounds.")
    void mostOfTouchedBuckets() {
        EqualHeights x = tableWithCommon50();
        int[][] asked = {{0, 9, 0}, {0, 10, 3}, {10, 10, 3}, {12, 12, 3}, {19, 19, 3}, {20, 20, 3}, {19, 20, 6},
            {25, 29, 3}, {40, 40, 3}, {40, 50, 6}, {41, 50, 3}, {41, 49, 0}, {51, 99, 0}, {0, 99, 9}};
        for (int[] a : asked) {
            due(a[0] + " to " + a[1], x.estimate(0, a[0], a[1], 2), a[2]);
        }
        due("a bucket of one value", tableCut(1, 0, 7, 7).estimate(0, 7, 7, 2), 2);
        due("below it", tableCut(1, 0, 7, 7).estimate(0, 6, 6, 2), 0);
        due("above it", tableCut(1, 0, 7, 7).estimate(0, 8, 8, 2), 0);
    }

    @Sentence(of = "Estimates", says = "with E and F for the estimates of both columns, N for the analysed rows")
    void bothOfTheAnalysedRows() {
        EqualHeights x = tableWithTwoPairs();
        due("4 + (6 - 4) * (6 - 4) / (8 - 4)", x.both(5, 7, 5, 8, 0), 5);
        carriedOut(x, "-0;-0;-0;-0;-0;-0;-0");
        due("with one row of now", x.both(5, 7, 5, 8, 0), 5);
        carriedOut(x, "-0");
        due("with no rows of now", x.both(5, 7, 5, 8, 0), 5);
        due("as many as there were pairs' rows", carriedOut(x, "+5,5*4"), 1);
        due("with 4 rows of now", x.both(5, 7, 5, 8, 0), 5);
        due("the estimate of the column 0 is E, not what it truly is", x.both(20, 30, 20, 30, 0), 1);
    }

    @Sentence(of = "Estimates", says = "P for the rows of the pairs between both bounds, Q for those of pairs with the value "
        + "in the column 0 between its bounds, R for those with the value in the column 1 between its bounds, and T for "
        + "those of all pairs")
    void pairsAtTheBounds() {
        EqualHeights x = tableOfPairs(pairOf(5, 5), pairOf(5, 5), pairOf(5, 5));
        x.analyse();
        int[][] only = {{5, 5, 5, 5, 3}, {4, 6, 4, 6, 3}, {0, 4, 5, 5, 0}, {6, 99, 5, 5, 0}, {5, 5, 0, 4, 0},
            {5, 5, 6, 99, 0}, {0, 5, 0, 5, 3}, {5, 99, 5, 99, 3}};
        for (int[] a : only) {
            due("one pair, " + a[0] + " to " + a[1] + ", " + a[2] + " to " + a[3], x.both(a[0], a[1], a[2], a[3], 0), a[4]);
        }
        for (int far : new int[] {0, 99}) {
            EqualHeights edge = tableOfPairs(pairOf(5, far), pairOf(5, far), pairOf(far, 5), pairOf(far, 5), pairOf(5, 50),
                pairOf(50, 5));
            edge.analyse();
            due("Q of a pair with " + far + ": (3 - 2) * (1 - 0) / (6 - 4)", edge.both(5, 5, 50, 50, 0), 0);
            due("R of a pair with " + far + ": (1 - 0) * (3 - 2) / (6 - 4)", edge.both(50, 50, 5, 5, 0), 0);
        }
        EqualHeights two = tableWithTwoPairs();
        due("P alone", two.both(5, 5, 5, 5, 0), 2);
        due("Q without P: (6 - 4) * (2 - 0) / (8 - 4)", two.both(5, 7, 20, 30, 0), 1);
        due("Q just without 7: (4 - 2) * (2 - 0) / (8 - 4)", two.both(5, 6, 20, 30, 0), 1);
        due("R without P: (2 - 0) * (6 - 4) / (8 - 4)", two.both(20, 30, 5, 8, 0), 1);
        due("T with pairs outside: (1 - 0) * (1 - 0) / (8 - 4)", two.both(6, 6, 20, 20, 0), 0);
        due("4 + (8 - 4) * (8 - 4) / (8 - 4)", two.both(0, 99, 0, 99, 0), 8);
    }

    @Sentence(of = "Estimates", says = "(E less Q, or 0 if that is less)")
    void nothingLessThanNoRestInTheColumn0() {
        EqualHeights x = tableWithPairInBucket();
        due("E is 4 * 1 / 91", x.estimate(0, 10, 10, 0), 0);
        due("2 + 0 * (4 - 2) / 2", x.both(10, 10, 0, 99, 0), 2);
        due("2 + 0 * 0 / 2", x.both(10, 10, 10, 10, 0), 2);
        due("0 + 0 * (3 - 0) / 2", x.both(10, 10, 11, 90, 0), 0);
        due("E less Q is 0", tableWithTwoPairs().both(7, 7, 0, 99, 0), 2);
        due("E less Q is 1: 2 + 1 * 4 / 4", tableWithTwoPairs().both(5, 5, 0, 99, 0), 3);
    }

    @Sentence(of = "Estimates", says = "(F less R, or 0 if that is less)")
    void nothingLessThanNoRestInTheColumn1() {
        EqualHeights x = tableWithPairInBucket();
        due("F is 4 * 1 / 91", x.estimate(1, 10, 10, 0), 0);
        due("2 + (4 - 2) * 0 / 2", x.both(0, 99, 10, 10, 0), 2);
        due("0 + (3 - 0) * 0 / 2", x.both(11, 90, 10, 10, 0), 0);
        due("F less R is 1: 2 + 4 * 1 / 4", tableWithTwoPairs().both(0, 99, 5, 5, 0), 3);
    }

    @Sentence(of = "Estimates", says = "all this divided by N less T")
    void timesBeforeDivided() {
        EqualHeights x = tableWithTwoPairs();
        due("3 * 4 / 4", x.both(6, 99, 0, 99, 0), 5);
        due("2 * 3 / 4", x.both(20, 30, 6, 99, 0), 1);
        EqualHeights one = tableOfPairs(pairOf(5, 5), pairOf(5, 5), pairOf(9, 9));
        one.analyse();
        due("N less T is 1: 2 + 1 * 1 / 1", one.both(0, 99, 0, 99, 0), 3);
        due("N less T is 1: 0 + 1 * 1 / 1", one.both(6, 99, 6, 99, 0), 1);
        due("N less T is 1: 2 + 1 * 0 / 1", one.both(0, 99, 0, 8, 0), 2);
    }

    @Sentence(of = "Estimates", says = "(nothing is added if N less T is 0)")
    void nothingIsAddedIfAllRowsAreInPairs() {
        // Without common values E and F differ from Q and R, so that something would be added.
        EqualHeights x = tableOfPairs(pairOf(0, 0), pairOf(0, 0), pairOf(9, 9), pairOf(9, 9));
        x.set(0, 1);
        x.set(COMMON, 0);
        x.analyse();
        due("E of 1 to 8", x.estimate(0, 1, 8, 0), 3);
        due("outside of the pairs", x.both(1, 8, 1, 8, 0), 0);
        due("one pair", x.both(0, 8, 0, 8, 0), 2);
        due("both pairs", x.both(0, 99, 0, 99, 0), 4);
        due("scaled", x.both(0, 99, 0, 99, 1), 4);
        due("outside, scaled", x.both(1, 8, 1, 8, 1), 0);
    }

    @Sentence(of = "Estimates", says = "An estimate is scaled: it is multiplied by the rows of now, and divided by the "
        + "analysed rows.")
    void scaled() {
        EqualHeights x = tableCut(10, 0, 1, 2, 3);
        due("as many rows", x.estimate(0, 1, 2, 3), 2);
        x.remove(0);
        due("2 * 2 / 3", x.estimate(0, 1, 2, 3), 1);
        due("1 * 2 / 3", x.estimate(0, 1, 1, 3), 0);
        due("3 * 2 / 3", x.both(0, 99, 0, 99, 1), 2);
        x.remove(0);
        x.remove(0);
        due("no rows of now", x.estimate(0, 0, 99, 3), 0);
        due("no rows of now, both", x.both(0, 99, 0, 99, 1), 0);
        due("not scaled", x.estimate(0, 0, 99, 0), 3);
        for (int row = 0; row < 60; row++) {
            x.insert(50, 50);
        }
        due("2 * 60 / 3", x.estimate(0, 1, 2, 3), 40);
        due("3 * 60 / 3", x.estimate(0, 0, 99, 3), 60);
        due("3 * 60 / 3, both", x.both(0, 99, 0, 99, 1), 60);
        due("nothing scaled", x.estimate(0, 4, 99, 3), 0);
        EqualHeights one = tableAnalysed(5);
        due("one analysed row: 1 * 1 / 1", one.estimate(0, 5, 5, 3), 1);
        one.insert(7, 7);
        due("one analysed row: 1 * 2 / 1", one.estimate(0, 5, 5, 3), 2);
        EqualHeights half = tableCut(1, 0, 0, 0, 1);
        half.insert(0, 0);
        half.insert(0, 0);
        half.insert(0, 0);
        due("what is rounded down before: 1 * 6 / 3", half.estimate(0, 0, 0, 3), 2);
    }

    // ---- Promise 11: estimate

    @Sentence(of = "Promise 11", says = "column: 0 or 1")
    void columnsOfEstimate() {
        EqualHeights x = tableWithCommon50();
        for (int what = 0; what < 5; what++) {
            due("column -1", x.estimate(-1, 0, 99, what), -2);
            due("column 0", x.estimate(0, 50, 50, what), 3);
            due("column 1", x.estimate(1, 0, 99, what), 9);
            due("column 2", x.estimate(2, 0, 99, what), -2);
        }
        due("column MIN", x.estimate(MIN, 0, 99, 0), -2);
        due("column MAX", x.estimate(MAX, 0, 99, 0), -2);
    }

    @Sentence(of = "Promise 11", says = "low: 0 to 99")
    void lowOfEstimate() {
        EqualHeights x = tableCut(2, 0, 0, 99);
        for (int what = 0; what < 5; what++) {
            due("low -1", x.estimate(0, -1, 99, what), -2);
            due("low 0", x.estimate(0, 0, 99, what), 2);
            due("low 99", x.estimate(0, 99, 99, what), 1);
            due("low 100", x.estimate(0, 100, 100, what), -2);
            due("low MIN", x.estimate(0, MIN, 99, what), -2);
            due("low MAX", x.estimate(0, MAX, MAX, what), -2);
        }
    }

    @Sentence(of = "Promise 11", says = "high: low to 99")
    void highOfEstimate() {
        EqualHeights x = tableCut(2, 0, 0, 99);
        for (int what = 0; what < 5; what++) {
            due("high 100", x.estimate(0, 0, 100, what), -2);
            due("high 99", x.estimate(0, 1, 99, what), 1);
            due("high is low", x.estimate(0, 50, 50, what), 0);
            due("high is 0", x.estimate(0, 0, 0, what), 1);
            due("high below low", x.estimate(0, 50, 49, what), -2);
            due("high -1", x.estimate(0, 0, -1, what), -2);
            due("high MIN", x.estimate(0, 0, MIN, what), -2);
            due("high MAX", x.estimate(0, 0, MAX, what), -2);
        }
    }

    @Sentence(of = "Promise 11", says = "what: 0 the estimate, 1 the least, 2 the most, 3 the estimate scaled, 4 how many "
        + "rows of now it truly is")
    void whatsOfEstimate() {
        EqualHeights x = tableWithCommon50();
        for (int row = 0; row < 9; row++) {
            x.insert(40, 9);
        }
        due("what -1", x.estimate(0, 15, 49, -1), -2);
        due("what 0", x.estimate(0, 15, 49, 0), 4);
        due("what 1", x.estimate(0, 15, 49, 1), 3);
        due("what 2", x.estimate(0, 15, 49, 2), 6);
        due("what 3", x.estimate(0, 15, 49, 3), 8);
        due("what 4", x.estimate(0, 15, 49, 4), 14);
        due("what 5", x.estimate(0, 15, 49, 5), -2);
        due("what MIN", x.estimate(0, 15, 49, MIN), -2);
        due("what MAX", x.estimate(0, 15, 49, MAX), -2);
        due("truly, at the low bound", x.estimate(0, 15, 15, 4), 1);
        due("truly, at the high bound", x.estimate(0, 11, 15, 4), 1);
        due("truly, just outside", x.estimate(0, 16, 18, 4), 0);
        EqualHeights edges = tableOfPairs(pairOf(0, 0), pairOf(99, 99), pairOf(0, 99), pairOf(99, 0));
        for (int column = 0; column < 2; column++) {
            due("truly, at 0, whatever the other column has", edges.estimate(column, 0, 0, 4), 2);
            due("truly, at 99, whatever the other column has", edges.estimate(column, 99, 99, 4), 2);
            due("truly, between", edges.estimate(column, 1, 98, 4), 0);
        }
    }

    @Sentence(of = "Promise 11", says = "BAD_VALUE if an argument is out of range; NONE for 0 to 3 without an analysis.")
    void estimateWithoutAnAnalysis() {
        EqualHeights x = tableOf(5, 5);
        for (int what = 0; what < 4; what++) {
            due("what " + what, x.estimate(0, 0, 99, what), -6);
            due("wrong, what " + what, x.estimate(0, 0, 100, what), -2);
        }
        due("what 4", x.estimate(0, 5, 5, 4), 2);
        due("what 4, wrong", x.estimate(2, 5, 5, 4), -2);
        due("what 4 of no rows", new EqualHeights().estimate(1, 0, 99, 4), 0);
        x.analyse();
        x.undo();
        due("the analysis was undone", x.estimate(0, 0, 99, 0), -6);
    }

    // ---- Promise 12: both

    private void boundsOfBoth(boolean inA, int low, int high, int want) {
        EqualHeights x = tableOfPairs(pairOf(0, 0), pairOf(0, 0), pairOf(99, 99), pairOf(99, 99));
        x.analyse();
        for (int what = 0; what < 3; what++) {
            int got = inA ? x.both(low, high, 0, 99, what) : x.both(0, 99, low, high, what);
            due((inA ? "A " : "B ") + low + " to " + high + ", what " + what, got, want);
        }
    }

    private void lowsOfBoth(boolean inA) {
        boundsOfBoth(inA, -1, 99, -2);
        boundsOfBoth(inA, 0, 99, 4);
        boundsOfBoth(inA, 99, 99, 2);
        boundsOfBoth(inA, 100, 100, -2);
        boundsOfBoth(inA, MIN, 99, -2);
        boundsOfBoth(inA, MAX, MAX, -2);
    }

    private void highsOfBoth(boolean inA) {
        boundsOfBoth(inA, 0, 100, -2);
        boundsOfBoth(inA, 1, 99, 2);
        boundsOfBoth(inA, 50, 50, 0);
        boundsOfBoth(inA, 0, 0, 2);
        boundsOfBoth(inA, 50, 49, -2);
        boundsOfBoth(inA, 0, -1, -2);
        boundsOfBoth(inA, 0, MIN, -2);
        boundsOfBoth(inA, 0, MAX, -2);
    }

    @Sentence(of = "Promise 12", says = "lowA: 0 to 99")
    void lowAOfBoth() {
        lowsOfBoth(true);
    }

    @Sentence(of = "Promise 12", says = "highA: lowA to 99")
    void highAOfBoth() {
        highsOfBoth(true);
    }

    @Sentence(of = "Promise 12", says = "lowB: 0 to 99")
    void lowBOfBoth() {
        lowsOfBoth(false);
    }

    @Sentence(of = "Promise 12", says = "highB: lowB to 99")
    void highBOfBoth() {
        highsOfBoth(false);
    }

    @Sentence(of = "Promise 12", says = "what: 0 the estimate, 1 the estimate scaled, 2 how many rows of now it truly is")
    void whatsOfBoth() {
        EqualHeights x = tableWithTwoPairs();
        for (int row = 0; row < 8; row++) {
            x.insert(7, 7);
        }
        due("what -1", x.both(5, 7, 5, 8, -1), -2);
        due("what 0", x.both(5, 7, 5, 8, 0), 5);
        due("what 1", x.both(5, 7, 5, 8, 1), 10);
        due("what 2", x.both(5, 7, 5, 8, 2), 12);
        due("what 3", x.both(5, 7, 5, 8, 3), -2);
        due("what MIN", x.both(5, 7, 5, 8, MIN), -2);
        due("what MAX", x.both(5, 7, 5, 8, MAX), -2);
        due("truly, at low and high bounds", x.both(6, 6, 30, 30, 2), 1);
        due("truly, outside of A alone", x.both(8, 19, 0, 99, 2), 0);
        due("truly, outside of B alone", x.both(0, 99, 9, 19, 2), 0);
        due("truly, in A and in B, but not in both", x.both(6, 6, 20, 20, 2), 0);
    }

    @Sentence(of = "Promise 12", says = "BAD_VALUE if an argument is out of range; NONE for 0 and 1 without an analysis.")
    void bothWithoutAnAnalysis() {
        EqualHeights x = tableOfPairs(pairOf(5, 6), pairOf(5, 7));
        due("what 0", x.both(5, 5, 6, 6, 0), -6);
        due("what 1", x.both(5, 5, 6, 6, 1), -6);
        due("what 2", x.both(5, 5, 6, 6, 2), 1);
        due("what 2, wrong", x.both(5, 5, 6, 5, 2), -2);
        due("what 0, wrong", x.both(-1, 5, 6, 6, 0), -2);
        due("what 2 of no rows", new EqualHeights().both(0, 99, 0, 99, 2), 0);
    }

    // ---- Promise 13: share

    @Sentence(of = "Promise 13", says = "the bits, as Float.floatToIntBits tells them, of the double that the estimate gives, "
        + "divided by the analysed rows, made a float")
    void bitsOfShares() {
        due("nothing", tableAnalysed(1, 2, 3).share(0, 4, 99), 0);
        due("all", tableAnalysed(1, 2, 3).share(0, 0, 99), 0x3F800000);
        due("one of one", tableAnalysed(1).share(0, 1, 1), 0x3F800000);
        due("a half", tableAnalysed(1, 2).share(0, 1, 1), 0x3F000000);
        due("a third, rounded up", tableAnalysed(1, 2, 3).share(0, 1, 1), 0x3EAAAAAB);
        due("a fifth, rounded up", tableAnalysed(1, 1, 2, 2, 3).share(0, 3, 3), 0x3E4CCCCD);
        due("two sevenths, rounded down", tableAnalysed(1, 1, 2, 2, 3, 4, 5).share(0, 1, 1), 0x3E924925);
        for (int part = 1; part < 60; part++) {
            EqualHeights x = new EqualHeights();
            for (int row = 0; row < 60; row++) {
                x.insert(row < part ? 0 : 99, 0);
            }
            x.analyse();
            due(part + " of 60", x.share(0, 0, 0), Float.floatToIntBits((float) (part / 60.0)));
        }
    }

    @Sentence(of = "Promise 13", says = "Returns the share of the analysed rows that an estimate of a column tells")
    void shareOfTheAnalysedRows() {
        EqualHeights x = tableAnalysed(1, 2);
        x.remove(0);
        x.remove(0);
        due("no rows of now", x.share(0, 1, 1), 0x3F000000);
        for (int row = 0; row < 60; row++) {
            x.insert(1, 1);
        }
        due("sixty rows of now", x.share(0, 1, 1), 0x3F000000);
        due("the column 1", x.share(1, 0, 0), 0x3F000000);
        due("what is rounded down: 1 of 3", tableCut(1, 0, 0, 0, 1).share(0, 0, 0), 0x3EAAAAAB);
    }

    @Sentence(of = "Promise 13", says = "BAD_VALUE as for estimate(); NONE without an analysis.")
    void wrongShares() {
        int[][] wrong = {{-1, 0, 99}, {2, 0, 99}, {MIN, 0, 99}, {MAX, 0, 99}, {0, -1, 99}, {0, 0, 100}, {0, 50, 49},
            {0, 100, 100}, {1, MIN, MAX}, {1, 0, MAX}, {1, MIN, 0}};
        EqualHeights x = tableAnalysed(0, 99);
        EqualHeights none = tableOf(0, 99);
        for (int[] w : wrong) {
            due("wrong", x.share(w[0], w[1], w[2]), -2);
            due("wrong, without an analysis", none.share(w[0], w[1], w[2]), -2);
        }
        due("low and high 0", x.share(0, 0, 0), 0x3F000000);
        due("low and high 99", x.share(0, 99, 99), 0x3F000000);
        due("without an analysis", none.share(0, 0, 99), -6);
        due("without an analysis and without rows", new EqualHeights().share(1, 0, 0), -6);
    }

    // ---- Promise 14: height

    @Sentence(of = "Promise 14", says = "the bits, as Double.doubleToLongBits tells them, of the double that the rows of all "
        + "its buckets give, divided by the buckets")
    void bitsOfHeights() {
        due("one row", tableAnalysed(5).height(0), 0x3FF0000000000000L);
        due("as many rows as buckets", tableAnalysed(1, 2, 3, 4).height(0), 0x3FF0000000000000L);
        due("5 / 4", tableAnalysed(1, 2, 3, 4, 5).height(0), 0x3FF4000000000000L);
        due("4 / 3", tableCut(3, 0, 1, 2, 3, 4).height(0), 0x3FF5555555555555L);
        due("5 / 3", tableCut(3, 0, 1, 2, 3, 4, 5).height(0), 0x3FFAAAAAAAAAAAABL);
        due("without the common rows", tableCut(3, 1, 7, 7, 7, 1, 2, 3, 4).height(0), 0x3FF5555555555555L);
        EqualHeights x = tableOfRows(60);
        x.set(0, 1);
        x.analyse();
        due("60 / 1", x.height(0), Double.doubleToLongBits(60.0));
        x.set(0, 7);
        x.analyse();
        due("60 / 7", x.height(1), Double.doubleToLongBits(60.0 / 7.0));
    }

    @Sentence(of = "Promise 14", says = "Returns the bits (0 without buckets)")
    void heightWithoutBuckets() {
        due("without an analysis", tableOf(1, 2).height(0), 0);
        due("without rows", new EqualHeights().height(1), 0);
        EqualHeights x = tableAnalysed(5, 5);
        due("all rows are common", x.height(0), 0);
        due("but not in the column 1", x.height(1), 0x3FF0000000000000L);
        x.remove(0);
        x.remove(0);
        due("buckets of rows that went", x.height(1), 0x3FF0000000000000L);
    }

    @Sentence(of = "Promise 14", says = "-2 if column is neither 0 nor 1.")
    void wrongColumnsOfHeight() {
        for (int column : new int[] {-1, 2, MIN, MAX}) {
            due("column " + column, tableAnalysed(1, 2).height(column), -2);
            due("column " + column + " without buckets", new EqualHeights().height(column), -2);
        }
    }

    // ---- Promise 15: worst

    @Sentence(of = "Promise 15", says = "Finds the value, of all from 0 to 99, of a column whose estimate (low and high being "
        + "this value) is farthest from the analysed rows that had it, of several the lowest one.")
    void worstOfAll() {
        EqualHeights x = tableCut(1, 0, 0, 0, 0, 98, 99);
        due("the value 0, estimated too low", x.worst(0, 0), 0);
        due("by 3", x.worst(0, 1), 3);
        x = tableCut(1, 0, 0, 1, 99, 99, 99);
        due("the value 99, estimated too low", x.worst(0, 0), 99);
        due("by 3", x.worst(0, 1), 3);
        x = tableCut(1, 0, 10, 10, 10, 12, 12, 12);
        due("a value that no row had, estimated too high", x.worst(0, 0), 11);
        due("by 2", x.worst(0, 1), 2);
        x = tableCut(1, 0, 0, 0, 50, 99, 99);
        due("0 and 99 are as far: the lowest one", x.worst(0, 0), 0);
        due("by 2", x.worst(0, 1), 2);
        x = tableCut(1, 0, 3, 98, 98, 99, 99);
        due("98 and 99 are as far: the lowest one", x.worst(0, 0), 98);
        due("by 2", x.worst(0, 1), 2);
        x = tableCut(1, 0, 20, 20, 22);
        due("21 too high, 20 too low: the lowest one", x.worst(0, 0), 20);
        due("by 1", x.worst(0, 1), 1);
        x = tableCut(2, 2, 7, 7, 9);
        due("none is wrong: the lowest one of all", x.worst(0, 0), 0);
        due("by nothing", x.worst(0, 1), 0);
        x = tableCut(1, 0, 5, 5, 5, 5, 5, 6);
        due("the other column", x.worst(1, 0), 0);
        due("by nothing", x.worst(1, 1), 0);
    }

    @Sentence(of = "Promise 15", says = "Finds the value, of all from 0 to 99")
    void everyValueCanBeTheWorst() {
        for (int value = 0; value < 100; value++) {
            EqualHeights x = tableCut(1, 0, value, value, value, (value + 50) % 100);
            due("three rows of " + value, x.worst(0, 0), value);
            due("by 3", x.worst(0, 1), 3);
        }
    }

    @Sentence(of = "Promise 15", says = "farthest from the analysed rows that had it")
    void worstOfTheAnalysedRows() {
        EqualHeights x = tableCut(1, 0, 0, 0, 0, 98, 99);
        x.remove(0);
        x.remove(0);
        x.remove(0);
        x.insert(50, 50);
        x.insert(50, 50);
        x.insert(50, 50);
        x.insert(50, 50);
        due("the value", x.worst(0, 0), 0);
        due("how far", x.worst(0, 1), 3);
    }

    @Sentence(of = "Promise 15", says = "what: 0 the value, 1 how far it is")
    void whatsOfWorst() {
        EqualHeights x = tableCut(1, 0, 40, 40, 40, 42);
        due("what -1", x.worst(0, -1), -2);
        due("the value", x.worst(0, 0), 40);
        due("how far it is", x.worst(0, 1), 2);
        due("what 2", x.worst(0, 2), -2);
    }

    @Sentence(of = "Promise 15", says = "BAD_VALUE if column is neither 0 nor 1, or what is neither 0 nor 1; NONE without an "
        + "analysis.")
    void wrongWorsts() {
        EqualHeights x = tableAnalysed(1, 2);
        EqualHeights none = tableOf(1, 2);
        for (int wrong : new int[] {-1, 2, MIN, MAX}) {
            due("column " + wrong, x.worst(wrong, 0), -2);
            due("what " + wrong, x.worst(0, wrong), -2);
            due("column " + wrong + " without an analysis", none.worst(wrong, 1), -2);
            due("what " + wrong + " without an analysis", none.worst(1, wrong), -2);
        }
        due("the value without an analysis", none.worst(0, 0), -6);
        due("how far without an analysis", none.worst(1, 1), -6);
        due("without rows", new EqualHeights().worst(0, 0), -6);
    }

    // ---- Promise 16: fewest

    /** Values 9 apart, one row each: a bucket with more than one of them estimates none of them rightly. */
    private static EqualHeights tableOfLonely(int rows) {
        EqualHeights x = new EqualHeights();
        for (int row = 0; row < rows; row++) {
            x.insert(row * 9, 0);
        }
        return x;
    }

    @Sentence(of = "Promise 16", says = "Finds the least BUCKETS, 1 to 10")
    void fewestFromOneToTen() {
        for (int rows = 1; rows <= 10; rows++) {
            due(rows + " lonely rows", tableOfLonely(rows).fewest(0, 0), rows);
        }
        due("11 lonely rows", tableOfLonely(11).fewest(0, 0), -6);
        due("12 lonely rows", tableOfLonely(12).fewest(0, 0), -6);
        due("the setting does not count", tableCut(10, 2, 1, 1, 1).fewest(0, 0), 1);
    }

    @Sentence(of = "Promise 16", says = "would estimate no value (of all from 0 to 99) of a column farther than told from the "
        + "rows that have it.")
    void notFartherThanTold() {
        EqualHeights x = new EqualHeights();
        for (int row = 0; row < 60; row++) {
            x.insert(row < 59 ? 0 : 99, 0);
        }
        x.set(COMMON, 0);
        due("59 is not farther than 59", x.fewest(0, 59), 1);
        due("59 is farther than 58", x.fewest(0, 58), 2);
        due("one bucket is wrong by 1", tableOfLonely(11).fewest(0, 1), 1);
        // Only one value of the one bucket is estimated wrong, by 1: 5 * 1 / 2 for 3 rows.
        EqualHeights low = tableOf(0, 0, 0, 1, 1);
        low.set(COMMON, 0);
        due("only the value 0 is wrong", low.fewest(0, 0), 2);
        due("only the value 0 is wrong, but not farther", low.fewest(0, 1), 1);
        EqualHeights high = tableOf(98, 98, 99, 99, 99);
        high.set(COMMON, 0);
        due("only the value 99 is wrong", high.fewest(0, 0), 3);
        due("only the value 99 is wrong, but not farther", high.fewest(0, 1), 1);
        EqualHeights gap = tableOf(10, 10, 10, 12, 12, 12);
        gap.set(COMMON, 0);
        due("a value that no row has is wrong by 2", gap.fewest(0, 1), 2);
        due("but not farther", gap.fewest(0, 2), 1);
        due("the other column", gap.fewest(1, 0), 1);
    }

    @Sentence(of = "Promise 16", says = "an analysis now (all other settings as they are)")
    void fewestOfNow() {
        EqualHeights x = tableOf(5, 5, 5, 90);
        due("with common values", x.fewest(0, 0), 1);
        x.analyse();
        x.set(COMMON, 0);
        due("the settings of now: 5 5, 5, 90", x.fewest(0, 0), 3);
        x.remove(3);
        due("the rows of now", x.fewest(0, 0), 1);
        due("the analysis stays", x.count(1), 4);
        due("the buckets stay", x.count(4), 1);
        due("BUCKETS stays", x.count(9), 4);
    }

    @Sentence(of = "Promise 16", says = "far: 0 to 60")
    void farsOfFewest() {
        EqualHeights x = tableOf(1, 50);
        due("far -1", x.fewest(0, -1), -2);
        due("far 0", x.fewest(0, 0), 2);
        due("far 60", x.fewest(0, 60), 1);
        due("far 61", x.fewest(0, 61), -2);
        due("far MIN", x.fewest(0, MIN), -2);
        due("far MAX", x.fewest(0, MAX), -2);
    }

    @Sentence(of = "Promise 16", says = "BAD_VALUE if column is neither 0 nor 1, or far is out of range; NOT_POSSIBLE if there "
        + "are no rows; NONE if there is none.")
    void wrongFewests() {
        EqualHeights x = tableAnalysed(1, 2);
        EqualHeights empty = new EqualHeights();
        for (int column : new int[] {-1, 2, MIN, MAX}) {
            due("column " + column, x.fewest(column, 0), -2);
            due("column " + column + " without rows", empty.fewest(column, 0), -2);
        }
        due("far 61 without rows", empty.fewest(0, 61), -2);
        due("without rows", empty.fewest(0, 60), -5);
        x.remove(0);
        x.remove(0);
        due("without rows of now", x.fewest(1, 60), -5);
        x.insert(1, 1);
        due("with a row, without another analysis", x.fewest(1, 0), 1);
        due("none", tableOfLonely(11).fewest(0, 0), -6);
        due("none, but of the other column", tableOfLonely(11).fewest(1, 0), 1);
    }
}
