import java.io.IOException;
import java.util.LinkedHashMap;
import java.util.Map;
import java.util.function.Consumer;
import java.util.function.Supplier;
import java.util.function.ToLongFunction;

/**
 * Calls that change nothing: those that are refused, those that answer NONE, and questions. Each is asked of one of two
 * objects made alike, which may not differ then, whatever comes afterwards.
 */
public final class RefusedBoundaryTest extends Sentences {
    private static final String ERRORS = "A call that returns an error changes nothing.";

    private final Map<String, Consumer<EqualHeights>> later = new LinkedHashMap<>();

    private RefusedBoundaryTest() {
        later.put("nothing", x -> { });
        for (int times = 1; times <= 6; times++) {
            int undone = times;
            later.put("undo() " + times + " times", x -> undo(x, undone));
        }
        later.put("restore(0)", x -> x.restore(0));
        later.put("restore(1)", x -> x.restore(1));
        later.put("carryOut()", EqualHeights::carryOut);
        later.put("put('b7'), carryOut()", x -> carriedOut(x, "b7"));
        later.put("insert(3, 3), undo()", x -> {
            x.insert(3, 3);
            x.undo();
        });
        later.put("remove(0), analyse()", x -> {
            x.remove(0);
            x.analyse();
        });
    }

    public static void main(String[] args) throws IOException {
        new RefusedBoundaryTest().runAll();
    }

    private static void undo(EqualHeights x, int times) {
        for (int i = 0; i < times; i++) {
            x.undo();
        }
    }

    /** Six changes can be undone, both slots hold something, the analysis is not of the rows of now. */
    private static EqualHeights full(String text) {
        EqualHeights x = tableOfPairs(pairOf(1, 5), pairOf(1, 5), pairOf(2, 6), pairOf(2, 6), pairOf(3, 7), pairOf(9, 8));
        x.save(0);
        x.set(EqualHeights.STALE, 50);
        x.set(EqualHeights.BUCKETS, 3);
        x.analyse();
        x.save(1);
        x.insert(4, 4);
        x.remove(0);
        x.set(EqualHeights.COMMON, 1);
        write(x, text);
        return x;
    }

    private static EqualHeights full() {
        return full("-0;+7,7*2;a");
    }

    private static EqualHeights sixtyRows() {
        EqualHeights x = tableOfRows(60);
        x.analyse();
        x.remove(7);
        x.insert(9, 9);
        return x;
    }

    /** An analysis, but no rows of now. */
    private static EqualHeights rowsGone() {
        EqualHeights x = tableAnalysed(4, 4);
        x.remove(0);
        x.remove(0);
        return x;
    }

    private static String told(EqualHeights x) {
        return x.count(13) + " " + x.fault() + " " + x.count(14) + " " + everything(x);
    }

    private void changesNothing(Supplier<EqualHeights> made, String call, ToLongFunction<EqualHeights> asked, long answer) {
        due(call, asked.applyAsLong(made.get()), answer);
        for (Map.Entry<String, Consumer<EqualHeights>> then : later.entrySet()) {
            EqualHeights asking = made.get();
            EqualHeights other = made.get();
            asked.applyAsLong(asking);
            then.getValue().accept(asking);
            then.getValue().accept(other);
            String got = told(asking);
            String want = told(other);
            holds(call + ", then " + then.getKey() + ": " + got + " for " + want, got.equals(want));
        }
    }

    @Sentence(of = "Terms", says = ERRORS)
    void refusedSets() {
        int[][] wrong = {{-1, 1}, {4, 1}, {0, 0}, {0, 11}, {1, -1}, {1, 7}, {2, -1}, {2, 7}, {3, -1}, {3, 101}};
        for (int[] w : wrong) {
            changesNothing(RefusedBoundaryTest::full, "set(" + w[0] + ", " + w[1] + ")", x -> x.set(w[0], w[1]), -2);
        }
    }

    @Sentence(of = "Terms", says = ERRORS)
    void refusedInserts() {
        int[][] wrong = {{-1, 5}, {5, -1}, {100, 5}, {5, 100}};
        for (int[] w : wrong) {
            changesNothing(RefusedBoundaryTest::full, "insert(" + w[0] + ", " + w[1] + ")", x -> x.insert(w[0], w[1]), -2);
        }
        changesNothing(RefusedBoundaryTest::sixtyRows, "insert(5, 5)", x -> x.insert(5, 5), -4);
    }

    @Sentence(of = "Terms", says = ERRORS)
    void refusedRemoves() {
        changesNothing(RefusedBoundaryTest::full, "remove(-1)", x -> x.remove(-1), -1);
        changesNothing(RefusedBoundaryTest::full, "remove(6)", x -> x.remove(6), -1);
        changesNothing(RefusedBoundaryTest::sixtyRows, "remove(60)", x -> x.remove(60), -1);
        changesNothing(RefusedBoundaryTest::rowsGone, "remove(0)", x -> x.remove(0), -1);
        changesNothing(EqualHeights::new, "remove(0)", x -> x.remove(0), -1);
    }

    @Sentence(of = "Terms", says = ERRORS)
    void refusedAnalyses() {
        changesNothing(EqualHeights::new, "analyse()", EqualHeights::analyse, -5);
        changesNothing(RefusedBoundaryTest::rowsGone, "analyse()", EqualHeights::analyse, -5);
    }

    @Sentence(of = "Terms", says = ERRORS)
    void refusedQuestions() {
        Supplier<EqualHeights> made = RefusedBoundaryTest::full;
        changesNothing(made, "row(6, 0)", x -> x.row(6, 0), -1);
        changesNothing(made, "row(0, 2)", x -> x.row(0, 2), -2);
        changesNothing(made, "bucket(0, 9, 0)", x -> x.bucket(0, 9, 0), -1);
        changesNothing(made, "bucket(2, 0, 0)", x -> x.bucket(2, 0, 0), -2);
        changesNothing(made, "common(0, 6, 0)", x -> x.common(0, 6, 0), -1);
        changesNothing(made, "common(0, 0, 2)", x -> x.common(0, 0, 2), -2);
        changesNothing(made, "pair(6, 0)", x -> x.pair(6, 0), -1);
        changesNothing(made, "pair(0, 3)", x -> x.pair(0, 3), -2);
        changesNothing(made, "count(15)", x -> x.count(15), -2);
    }

    @Sentence(of = "Terms", says = ERRORS)
    void refusedEstimates() {
        Supplier<EqualHeights> made = RefusedBoundaryTest::full;
        changesNothing(made, "estimate(0, 0, 100, 0)", x -> x.estimate(0, 0, 100, 0), -2);
        changesNothing(made, "both(0, 1, 1, 0, 0)", x -> x.both(0, 1, 1, 0, 0), -2);
        changesNothing(made, "share(2, 0, 1)", x -> x.share(2, 0, 1), -2);
        changesNothing(made, "height(2)", x -> x.height(2), -2);
        changesNothing(made, "worst(0, 2)", x -> x.worst(0, 2), -2);
        changesNothing(made, "fewest(0, 61)", x -> x.fewest(0, 61), -2);
        changesNothing(RefusedBoundaryTest::rowsGone, "fewest(0, 0)", x -> x.fewest(0, 0), -5);
    }

    @Sentence(of = "Terms", says = ERRORS)
    void refusedTexts() {
        changesNothing(RefusedBoundaryTest::full, "put(0)", x -> x.put(0), -2);
        changesNothing(RefusedBoundaryTest::full, "put(' a')", x -> x.put(0x2061), -2);
        changesNothing(RefusedBoundaryTest::full, "put('a' and above)", x -> x.put(0x1000061), -2);
        String almost = "b1;b2;b3;b4;b5;b6;b7;b8;b9;c1;c2;c3;c4;c5;c6;p1;p2;p3;p4;p5;p6;a;-0;-0;+1,10;-0";
        due("length", almost.length(), 79);
        changesNothing(() -> full(almost), "put(';a')", x -> x.put(0x3B61), -4);
        changesNothing(() -> full("b1;"), "carryOut()", EqualHeights::carryOut, -3);
        changesNothing(() -> full("b1;x"), "carryOut()", EqualHeights::carryOut, -3);
        changesNothing(() -> full(""), "carryOut()", EqualHeights::carryOut, -3);
    }

    @Sentence(of = "Terms", says = ERRORS)
    void refusedUndosAndSlots() {
        changesNothing(EqualHeights::new, "undo()", EqualHeights::undo, -5);
        changesNothing(() -> {
            EqualHeights x = full();
            undo(x, 6);
            return x;
        }, "undo()", EqualHeights::undo, -5);
        for (int slot : new int[] {-1, 2}) {
            changesNothing(RefusedBoundaryTest::full, "save(" + slot + ")", x -> x.save(slot), -2);
            changesNothing(RefusedBoundaryTest::full, "restore(" + slot + ")", x -> x.restore(slot), -2);
        }
        changesNothing(RefusedBoundaryTest::sixtyRows, "restore(0)", x -> x.restore(0), -5);
        changesNothing(RefusedBoundaryTest::rowsGone, "restore(1)", x -> x.restore(1), -5);
    }

    @Sentence(of = "Terms", says = "NONE (-6) is not an error; it is returned only if no error applies.")
    void answersOfNone() {
        Supplier<EqualHeights> made = () -> tableOf(0, 9, 18, 27, 36, 45, 54, 63, 72, 81, 90);
        changesNothing(made, "count(3)", x -> x.count(3), -6);
        changesNothing(made, "estimate(0, 0, 99, 0)", x -> x.estimate(0, 0, 99, 0), -6);
        changesNothing(made, "both(0, 99, 0, 99, 1)", x -> x.both(0, 99, 0, 99, 1), -6);
        changesNothing(made, "share(0, 0, 99)", x -> x.share(0, 0, 99), -6);
        changesNothing(made, "worst(0, 0)", x -> x.worst(0, 0), -6);
        changesNothing(made, "fewest(0, 0)", x -> x.fewest(0, 0), -6);
        changesNothing(RefusedBoundaryTest::full, "fault()", EqualHeights::fault, -6);
    }

    @Sentence(of = "Texts", says = "Ahead of the calls estimate, both, share, height, worst, fewest the interface says: ---- "
        + "estimates; nothing changes.")
    void estimatesChangeNothing() {
        Supplier<EqualHeights> made = RefusedBoundaryTest::full;
        for (int what = 0; what < 5; what++) {
            int asked = what;
            long answer = full().estimate(0, 1, 3, what);
            changesNothing(made, "estimate(0, 1, 3, " + what + ")", x -> x.estimate(0, 1, 3, asked), answer);
        }
        changesNothing(made, "both(0, 9, 5, 7, 0)", x -> x.both(0, 9, 5, 7, 0), full().both(0, 9, 5, 7, 0));
        changesNothing(made, "share(1, 5, 6)", x -> x.share(1, 5, 6), full().share(1, 5, 6));
        changesNothing(made, "height(0)", x -> x.height(0), full().height(0));
        changesNothing(made, "worst(0, 1)", x -> x.worst(0, 1), full().worst(0, 1));
        changesNothing(made, "fewest(0, 0)", x -> x.fewest(0, 0), 4);
        changesNothing(RefusedBoundaryTest::sixtyRows, "fewest(1, 1)", x -> x.fewest(1, 1), 1);
    }

    @Sentence(of = "Texts", says = "Ahead of the calls row, bucket, common, pair, count the interface says: ---- what there is.")
    void questionsChangeNothing() {
        Supplier<EqualHeights> made = RefusedBoundaryTest::full;
        changesNothing(made, "row(5, 1)", x -> x.row(5, 1), 4);
        changesNothing(made, "bucket(0, 1, 0)", x -> x.bucket(0, 1, 0), 9);
        changesNothing(made, "common(1, 1, 0)", x -> x.common(1, 1, 0), 6);
        changesNothing(made, "pair(1, 1)", x -> x.pair(1, 1), 6);
        changesNothing(made, "count(14)", x -> x.count(14), 6);
    }
}
