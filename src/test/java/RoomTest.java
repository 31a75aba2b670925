import com.sun.management.ThreadMXBean;
import java.lang.management.ManagementFactory;
import java.util.LinkedHashMap;
import java.util.Map;
import java.util.function.ToLongFunction;

/** All calls of a run live in one room: once every state has its place, no call may make an object or an array. */
public final class RoomTest {
    private static final Check CHECK = new Check("RoomTest");
    private static final int TIMES = 200;
    // Less than 16 bytes a call, and no object is smaller.
    private static final int BYTES_ALLOWED = TIMES * 15;
    // Ten states (now, seven of the history, two slots) and what else an object has.
    private static final int BYTES_OF_AN_OBJECT = 40000;

    private static final ThreadMXBean THREADS = (ThreadMXBean) ManagementFactory.getThreadMXBean();

    public static void main(String[] args) {
        if (!THREADS.isThreadAllocatedMemorySupported()) {
            System.out.println("RoomTest: this machine does not tell what is made");
            return;
        }
        Map<String, ToLongFunction<EqualHeights>> calls = calls();
        for (Map.Entry<String, ToLongFunction<EqualHeights>> call : calls.entrySet()) {
            // Once for nothing: what the machine itself makes at the first time does not count.
            bytesOf(call.getValue());
            long bytes = bytesOf(call.getValue());
            CHECK.holds(call.getKey() + " " + TIMES + " times made " + bytes + " bytes", bytes <= BYTES_ALLOWED);
        }
        bytesOfAnObject();
        long bytes = bytesOfAnObject();
        CHECK.holds("an object with all its places made " + bytes + " bytes", bytes <= BYTES_OF_AN_OBJECT);
        CHECK.end();
    }

    private static Map<String, ToLongFunction<EqualHeights>> calls() {
        Map<String, ToLongFunction<EqualHeights>> calls = new LinkedHashMap<>();
        calls.put("set", x -> x.set(0, 7));
        calls.put("insert", x -> x.insert(9, 9));
        calls.put("remove", x -> x.remove(0));
        calls.put("analyse", EqualHeights::analyse);
        calls.put("row", x -> x.row(3, 1));
        calls.put("bucket", x -> x.bucket(0, 1, 3));
        calls.put("common", x -> x.common(0, 1, 0));
        calls.put("pair", x -> x.pair(1, 2));
        calls.put("count", x -> x.count(3));
        calls.put("estimate", x -> x.estimate(0, 3, 80, 3));
        calls.put("both", x -> x.both(3, 80, 2, 90, 1));
        calls.put("share", x -> x.share(0, 3, 80));
        calls.put("height", x -> x.height(0));
        calls.put("worst", x -> x.worst(0, 1));
        calls.put("fewest", x -> x.fewest(0, 0));
        calls.put("put", x -> x.put(0x61));
        calls.put("put, refused", x -> x.put(-1));
        calls.put("wipe", EqualHeights::wipe);
        calls.put("fault", EqualHeights::fault);
        calls.put("carryOut", EqualHeights::carryOut);
        calls.put("put and carryOut", x -> x.put(0x613B2D35) + x.carryOut());
        calls.put("undo", EqualHeights::undo);
        calls.put("save", x -> x.save(0));
        calls.put("restore", x -> x.restore(1));
        return calls;
    }

    private static long bytesOf(ToLongFunction<EqualHeights> call) {
        EqualHeights x = full();
        long before = THREADS.getCurrentThreadAllocatedBytes();
        for (int i = 0; i < TIMES; i++) {
            call.applyAsLong(x);
        }
        return THREADS.getCurrentThreadAllocatedBytes() - before;
    }

    private static long bytesOfAnObject() {
        long before = THREADS.getCurrentThreadAllocatedBytes();
        full();
        return THREADS.getCurrentThreadAllocatedBytes() - before;
    }

    /** Sixty rows, analysed; every place of the history and of the slots has been used. */
    private static EqualHeights full() {
        EqualHeights x = new EqualHeights();
        for (int row = 0; row < 60; row++) {
            x.insert(row * row % 97, row / 2);
        }
        x.analyse();
        x.save(0);
        x.save(1);
        return x;
    }
}
