import java.util.ArrayList;
import java.util.List;

/** Runs of calls, the same ones each time, on the class and on the model; the first unlike answer ends a run. */
public final class ModelTest {
    private static final int RUNS = 1200;
    private static final int CALLS = 512;
    private static final int[] EXTREMES = {Integer.MIN_VALUE, Integer.MAX_VALUE, -1, -2, 2, 3, 4, 6, 10, 60, 61, 99,
        100, 101};

    private long seed;
    private int widest;
    private EqualHeights real;
    private Model model;
    private List<String> told;
    private long got;
    private long want;

    public static void main(String[] args) {
        Check check = new Check("ModelTest");
        for (int run = 0; run < RUNS && check.wrong() < 5; run++) {
            new ModelTest().run(run, check);
        }
        check.end();
    }

    private void run(int run, Check check) {
        seed = run * 7919L + 17;
        widest = new int[] {3, 12, 40, 100}[below(4)];
        real = new EqualHeights();
        model = new Model();
        told = new ArrayList<>();
        for (int call = 0; call < CALLS; call++) {
            oneCall();
            check.due("run " + run + ", call " + call + ": " + told.get(told.size() - 1), got, want);
            if (got != want) {
                System.out.println(String.join("; ", told));
                return;
            }
        }
    }

    private int below(int bound) {
        seed = seed * 6364136223846793005L + 1442695040888963407L;
        return (int) ((seed >>> 33) % bound);
    }

    /** Mostly a number from 0 on below the bound; now and then a number that the document rules out, or an edge. */
    private int number(int bound) {
        return below(40) == 0 ? EXTREMES[below(EXTREMES.length)] : below(bound);
    }

    private int value() {
        return below(12) == 0 ? number(100) : number(widest);
    }

    private int low() {
        return below(3) == 0 ? number(100) : number(widest);
    }

    private int high(int low) {
        int from = low < 0 || low > 99 ? 0 : low;
        return below(3) == 0 ? number(100) : from + below(below(2) == 0 ? 100 - from : Math.min(10, 100 - from));
    }

    private void answered(String call, long real, long model) {
        told.add(call + " = " + model);
        got = real;
        want = model;
    }

    private void oneCall() {
        int kind = below(100);
        if (kind < 44) {
            change(kind);
        } else if (kind < 62) {
            question(kind - 44);
        } else if (kind < 84) {
            estimate(kind - 62);
        } else {
            text(kind - 84);
        }
    }

    private void change(int kind) {
        if (kind < 20) {
            int a = value();
            int b = value();
            answered("insert(" + a + ", " + b + ")", real.insert(a, b), model.insert(a, b));
        } else if (kind < 24) {
            int row = number(64);
            answered("remove(" + row + ")", real.remove(row), model.remove(row));
        } else if (kind < 31) {
            answered("analyse()", real.analyse(), model.analyse());
        } else if (kind < 36) {
            int setting = number(4);
            int value = number(setting == 0 ? 12 : setting == 3 ? 104 : 8);
            answered("set(" + setting + ", " + value + ")", real.set(setting, value), model.set(setting, value));
        } else if (kind < 40) {
            answered("undo()", real.undo(), model.undo());
        } else if (kind < 42) {
            int slot = number(2);
            answered("save(" + slot + ")", real.save(slot), model.save(slot));
        } else {
            int slot = number(2);
            answered("restore(" + slot + ")", real.restore(slot), model.restore(slot));
        }
    }

    private void question(int kind) {
        int column = number(2);
        if (kind < 2) {
            int row = number(60);
            answered("row(" + row + ", " + column + ")", real.row(row, column), model.row(row, column));
        } else if (kind < 6) {
            int bucket = number(10);
            int what = number(4);
            answered("bucket(" + column + ", " + bucket + ", " + what + ")",
                real.bucket(column, bucket, what), model.bucket(column, bucket, what));
        } else if (kind < 9) {
            int common = number(6);
            int what = number(2);
            answered("common(" + column + ", " + common + ", " + what + ")",
                real.common(column, common, what), model.common(column, common, what));
        } else if (kind < 12) {
            int pair = number(6);
            int what = number(3);
            answered("pair(" + pair + ", " + what + ")", real.pair(pair, what), model.pair(pair, what));
        } else {
            int what = number(15);
            answered("count(" + what + ")", real.count(what), model.count(what));
        }
    }

    private void estimate(int kind) {
        int column = number(2);
        int low = low();
        int high = high(low);
        String bounds = low + ", " + high;
        if (kind < 6) {
            int what = number(5);
            answered("estimate(" + column + ", " + bounds + ", " + what + ")",
                real.estimate(column, low, high, what), model.estimate(column, low, high, what));
        } else if (kind < 11) {
            int lowB = low();
            int highB = high(lowB);
            int what = number(3);
            answered("both(" + bounds + ", " + lowB + ", " + highB + ", " + what + ")",
                real.both(low, high, lowB, highB, what), model.both(low, high, lowB, highB, what));
        } else if (kind < 14) {
            answered("share(" + column + ", " + bounds + ")",
                real.share(column, low, high), model.share(column, low, high));
        } else if (kind < 16) {
            answered("height(" + column + ")", real.height(column), model.height(column));
        } else if (kind < 20) {
            int what = number(2);
            answered("worst(" + column + ", " + what + ")", real.worst(column, what), model.worst(column, what));
        } else {
            int far = below(3) == 0 ? number(61) : number(4);
            answered("fewest(" + column + ", " + far + ")", real.fewest(column, far), model.fewest(column, far));
        }
    }

    private void text(int kind) {
        if (kind < 10) {
            long characters = characters();
            answered("put(" + characters + ")", real.put(characters), model.put(characters));
        } else if (kind < 12) {
            answered("fault()", real.fault(), model.fault());
        } else if (kind < 15) {
            answered("carryOut()", real.carryOut(), model.carryOut());
        } else {
            answered("wipe()", real.wipe(), model.wipe());
        }
    }

    /** Mostly whole orders, so that texts without a fault come up often. */
    private long characters() {
        switch (below(12)) {
            case 0: return seed;
            case 1: return below(128);
            case 2: return Check.numbersOf("+-*,;abcp0123456789".substring(below(19)))[0];
            case 3: return Check.numbersOf(order())[0] << 8 * below(3);
            default:
                String text = order() + (below(3) == 0 ? "" : ";");
                return Check.numbersOf(text.length() > 8 ? text.substring(0, 8) : text)[0];
        }
    }

    private String order() {
        switch (below(10)) {
            case 0: return "-" + below(30);
            case 1: return "a";
            case 2: return "b" + below(12);
            case 3: return "c" + below(8);
            case 4: return "p" + below(8);
            case 5: return "a;" + "bcp".charAt(below(3)) + (1 + below(6));
            default:
                String times = below(2) == 0 ? "" : "*" + below(10);
                return "+" + below(widest) + "," + below(Math.min(widest, 10)) + times;
        }
    }
}
