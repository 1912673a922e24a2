import java.lang.management.ManagementFactory;

/** What the calls of a run make: an object's rows are made as it is, and nothing behind that. */
public final class RoomTest {
    private static final int CALLS = 512;
    private static final long ROOM_OF_ONE = 60000;

    private static final com.sun.management.ThreadMXBean THREADS =
            (com.sun.management.ThreadMXBean) ManagementFactory.getThreadMXBean();

    public static void main(String[] args) {
        // Once ahead of the measure: classes are loaded then.
        run(new FanTalk());
        long start = THREADS.getCurrentThreadAllocatedBytes();
        FanTalk x = new FanTalk();
        long made = THREADS.getCurrentThreadAllocatedBytes();
        long sum = run(x);
        long done = THREADS.getCurrentThreadAllocatedBytes();
        System.out.println("room: " + (made - start) + " bytes for an object, " + (done - made) + " for its calls"
                + (sum == 0 ? " " : ""));
        if (made - start > ROOM_OF_ONE || done - made > 1000) {
            System.exit(1);
        }
    }

    /** Every method of the face, the dearest ones most. */
    private static long run(FanTalk x) {
        long sum = 0;
        for (int i = 0; i < CALLS; i++) {
            sum += make(x, i % 40) + ask(x, i % 40, i);
        }
        return sum;
    }

    private static long make(FanTalk x, int what) {
        switch (what) {
            case 0: return x.code();
            case 1: return x.entry(0, 1, 12);
            case 2: return x.entry(0, 2, 144 + 26);
            case 3: return x.entry(0, 3, 1728 + 30);
            case 4: return x.told(0, 1, 0);
            case 5: return x.draughts(5);
            case 6: return x.type(0x636F64653B202020L, 8);
            case 7: return x.read();
            case 8: return x.clear();
            case 9: return x.say(2985984 + 170);
            case 10: return x.seen(3);
            case 11: return x.reads(4, 0, 0);
            case 12: return x.otherwise(0, 0, 1, 0);
            case 13: return x.utter(0);
            case 14: return x.uses(1);
            case 15: return x.year();
            case 16: return x.undo();
            case 17: return x.want(2);
            case 18: return x.forget();
            default: return 0;
        }
    }

    private static long ask(FanTalk x, int what, int i) {
        switch (what) {
            case 20: return x.want(1);
            case 21: return x.want(i % 10);
            case 22: return x.safe(0);
            case 23: return x.fact(12, 1);
            case 24: return x.mayBe();
            case 25: return x.heat(i % 5, 0, 1, 60, i);
            case 26: return x.image(i % 2);
            case 27: return x.from(i % 2);
            case 28: return x.status(0);
            case 29: return x.count(1);
            case 30: return x.digest();
            case 31: case 32: case 33: case 34: return x.hide(0, 0, i % 6);
            case 35: case 36: case 37: case 38: return x.save(0, i % 10, i % 2);
            default: return 0;
        }
    }
}
