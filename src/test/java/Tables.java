/** Tables for the tests, and what the calls tell of one. No test may ask an object more than its 512 calls. */
abstract class Tables {
    static final int MIN = Integer.MIN_VALUE;
    static final int MAX = Integer.MAX_VALUE;
    /** Orders after which all that the analysis of tableOfTwenty() remembers is different. */
    static final String ALL_DIFFERENT = "b10;c6;p6;-0;-3;-7;+99,98*5;-0;a;-0";

    /** A table whose rows have these values in the column 0, and their own number in the column 1. */
    static EqualHeights tableOf(int... values) {
        EqualHeights x = new EqualHeights();
        for (int i = 0; i < values.length; i++) {
            x.insert(values[i], i);
        }
        return x;
    }

    static EqualHeights tableAnalysed(int... values) {
        EqualHeights x = tableOf(values);
        x.analyse();
        return x;
    }

    /** The same, analysed with other settings of BUCKETS and COMMON. */
    static EqualHeights tableCut(int buckets, int common, int... values) {
        EqualHeights x = tableOf(values);
        x.set(0, buckets);
        x.set(1, common);
        x.analyse();
        return x;
    }

    /** A table whose rows have their own number in both columns. */
    static EqualHeights tableOfRows(int rows) {
        EqualHeights x = new EqualHeights();
        for (int row = 0; row < rows; row++) {
            x.insert(row, row);
        }
        return x;
    }

    static EqualHeights tableOfPairs(int[]... pairs) {
        EqualHeights x = new EqualHeights();
        for (int[] pair : pairs) {
            x.insert(pair[0], pair[1]);
        }
        return x;
    }

    static int[] pairOf(int a, int b) {
        return new int[] {a, b};
    }

    /** Twenty rows, analysed, and one that came since; common values, buckets and pairs all hold something. */
    static EqualHeights tableOfTwenty() {
        EqualHeights x = new EqualHeights();
        for (int row = 0; row < 20; row++) {
            x.insert(row * row % 11, 90 - row * row % 7);
        }
        x.set(0, 3);
        x.analyse();
        x.insert(4, 88);
        return x;
    }

    static void write(EqualHeights x, String text) {
        for (long characters : Check.numbersOf(text)) {
            x.put(characters);
        }
    }

    static int faultOf(String text) {
        EqualHeights x = new EqualHeights();
        write(x, text);
        return x.fault();
    }

    static int carriedOut(EqualHeights x, String text) {
        write(x, text);
        return x.carryOut();
    }

    /** All that undo() and restore() bring back, as far as the calls tell it. */
    static String everything(EqualHeights x) {
        StringBuilder all = new StringBuilder();
        int[] counts = new int[13];
        for (int what = 0; what < counts.length; what++) {
            counts[what] = x.count(what);
            all.append(counts[what]).append(' ');
        }
        for (int row = 0; row < counts[0]; row++) {
            all.append(x.row(row, 0)).append(',').append(x.row(row, 1)).append(' ');
        }
        for (int column = 0; column < 2; column++) {
            appendColumn(all, x, column, counts[4 + column], counts[6 + column]);
        }
        for (int pair = 0; pair < counts[8]; pair++) {
            all.append(x.pair(pair, 0)).append(',').append(x.pair(pair, 1)).append(',').append(x.pair(pair, 2)).append(' ');
        }
        return all.toString();
    }

    private static void appendColumn(StringBuilder all, EqualHeights x, int column, int buckets, int commons) {
        for (int bucket = 0; bucket < buckets; bucket++) {
            for (int what = 0; what < 4; what++) {
                all.append(x.bucket(column, bucket, what)).append(what < 3 ? ',' : ' ');
            }
        }
        for (int common = 0; common < commons; common++) {
            all.append(x.common(column, common, 0)).append(',').append(x.common(column, common, 1)).append(' ');
        }
        all.append(x.worst(column, 0)).append(',').append(x.worst(column, 1)).append(' ');
    }
}
