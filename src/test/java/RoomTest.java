import com.sun.management.ThreadMXBean;
import java.lang.management.ManagementFactory;
import java.util.function.IntSupplier;

/** All calls of a run live in one room: but for texts that are taken, no call may make anything, however dear it is. */
public final class RoomTest {
    private static final ThreadMXBean BEAN = (ThreadMXBean) ManagementFactory.getThreadMXBean();
    private static final Check CHECK = new Check();
    /** Far below the room: 512 calls of this size are some 250,000 elements. */
    private static final int MOST_OF_TEXT = 2000;

    private LawHoles x;

    public static void main(String[] args) {
        new RoomTest().go();
        CHECK.close();
    }

    /** How many bytes a call makes; it has been called once before, so that nothing is made for the first time alone. */
    private long made(IntSupplier call) {
        call.getAsInt();
        long before = BEAN.getCurrentThreadAllocatedBytes();
        call.getAsInt();
        return BEAN.getCurrentThreadAllocatedBytes() - before;
    }

    private void makesNothing(String name, IntSupplier call) {
        CHECK.due(name + " makes", made(call), 0);
    }

    private void go() {
        long one = made(() -> {
            x = new LawHoles();
            return 0;
        });
        CHECK.due("a new object is small: " + one, one < 60_000, true);
        texts();
        searches();
        rest();
    }

    private void texts() {
        long most = 0;
        String[] texts = {"", "act ab;", "act ab;act cd;act ef;act gh;act ij;act kl;", "act ab need day=1 make day+1;",
            "act ab" + " make day+1".repeat(6) + " need day=1".repeat(4) + ";"};
        for (String text : texts) {
            byte[] bytes = Check.bytes(text);
            long taken = made(() -> feed(bytes) + x.statute(0));
            most = Math.max(most, taken);
        }
        byte[] whole = Check.bytes("act ab" + (" make day" + "+1".repeat(30)).repeat(6) + " need day=1".repeat(4) + ";");
        long long6 = made(() -> feed(whole) + x.statute(0));
        CHECK.due("a short statute makes little: " + most, most < MOST_OF_TEXT, true);
        CHECK.due("a long statute makes little: " + long6, long6 < 3 * MOST_OF_TEXT, true);
        makesNothing("feed and end", () -> feed(whole));
        x.end(0);
    }

    private int feed(byte[] bytes) {
        x.end(0);
        for (int i = 0; i < bytes.length; i += 20) {
            x.feed(Check.four(bytes, i), Check.four(bytes, i + 4), Check.four(bytes, i + 8), Check.four(bytes, i + 12),
                Check.four(bytes, i + 16));
        }
        x.end(bytes.length);
        return 0;
    }

    /** Each by a law by which many STATES are MET, and anew: another SEARCH goes between. */
    private void searches() {
        x = Counter.of(400, "coin a=15");
        for (int i = 0; i < 5; i++) {
            Check.cure(x, i, "day<9");
        }
        CHECK.due("many are MET", x.met(1, 6, false), 400);
        makesNothing("hole", () -> x.hole(0, 1, 6, 7, 0) + x.hole(0, 1, 5, 7, 20));
        makesNothing("friends", () -> x.friends(0, 1, 6) + x.friends(0, 3, 5));
        makesNothing("only", () -> x.only(0, 6) + x.only(0, 5));
        makesNothing("met", () -> x.met(1, 6, true) + x.met(1, 5, true));
        makesNothing("gain", () -> x.gain(0, 1, 6, 2) + x.gain(0, 1, 5, 0));
        makesNothing("stop", () -> x.stop(0, 6, 0) + x.stop(0, 5, 1));
    }

    private void rest() {
        makesNothing("coin and its like", () -> (x.coin(0, 1) && x.debt(0, 1, 1) && x.kin(0, 1, 0, true) && x.owner(0, 1)
            && x.day(1)) ? 1 : 0);
        makesNothing("fault and act", () -> x.fault(0) + x.act(0, 2));
        makesNothing("put, clear and honest", () -> x.put(0, 7) + (x.honest(0, true) && x.clear(0) ? 1 : 0));
        x.put(1, 7);
        makesNothing("lawful and after", () -> x.lawful(1, 3, 31, 0) + x.after(1, 0));
        makesNothing("past and through", () -> x.past(7) + x.through(1, 1));
    }
}
