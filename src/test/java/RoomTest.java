import java.lang.management.ManagementFactory;
import java.util.function.Consumer;

/** All calls of one run live in one room: what an object makes in its life, of 512 calls, stays far below it. */
public final class RoomTest {
    /** A room of 7.3 million elements; one takes a byte at least, here nearly all take eight. */
    private static final long ROOM = 7300000;
    private final Check check;
    private final com.sun.management.ThreadMXBean threads;

    private RoomTest(Check check) {
        this.check = check;
        threads = (com.sun.management.ThreadMXBean) ManagementFactory.getThreadMXBean();
    }

    private long bytesOf(Runnable calls) {
        long thread = Thread.currentThread().getId();
        long before = threads.getThreadAllocatedBytes(thread);
        calls.run();
        return threads.getThreadAllocatedBytes(thread) - before;
    }

    private void atMost(String what, Runnable calls, long bytes) {
        bytesOf(calls);
        long made = bytesOf(calls);
        check.due(what + " makes " + made + " bytes, no more than " + bytes, made <= bytes, true);
    }

    private static String items(int number) {
        return "->a" + ";->a".repeat(number - 1);
    }

    private static CueRolls sized(int... sizes) {
        CueRolls x = new CueRolls();
        for (int size : sizes) {
            Check.tell(x, 0, items(size));
        }
        Check.tell(x, 1, "abcdefghij/ab/cd/ef");
        Check.tell(x, 2, "y:[[[n]]]*2>3&!v=w?f;y:l/w");
        return x;
    }

    /** Orders of rolls with the most states there may be, told in an order that makes the tables grow step by step. */
    private void orders() {
        int[][] all = {{2, 2, 2, 2, 2, 3, 3, 4}, {1, 2, 2, 3, 3, 3, 3, 3}, {12, 8, 1, 1, 1, 1, 1, 1}};
        for (int[] sizes : all) {
            CueRolls[] x = {null, null};
            atMost("orders of all some", () -> {
                x[0] = sized(sizes);
                for (int some = 1; some < 256; some++) {
                    x[0].least(some);
                }
                for (int some = 255; some > 0; some--) {
                    x[0].sure(some, 0, 16);
                }
            }, ROOM);
            atMost("orders told again", () -> {
                for (int some = 1; some < 256; some++) {
                    x[0].first(some, 3);
                    x[0].sure(some, 0, 1);
                    x[0].orders(some);
                }
            }, 1000);
            atMost("orders of rolls that go and come", () -> {
                for (int i = 0; i < 8; i++) {
                    x[0].back();
                    Check.tell(x[0], 0, items(12));
                    Check.tell(x[0], 0, items(8));
                    x[0].sure(3, 0, 16);
                }
            }, 20000);
        }
    }

    private void calls() {
        atMost("a new object", CueRolls::new, 100000);
        CueRolls x = sized(12, 12, 12, 12, 12, 12, 12, 12);
        Consumer<Integer> each = i -> {
            int roll = i & 7;
            int speech = 16 * roll + i % 12;
            x.end(0);
            x.feed(0x2d3e6100, i, 0, 0, 0x792f3a6e);
            x.fault(i % 3);
            x.text(i % 3);
            x.habit(roll, 0);
            x.speech(speech, i % 3);
            x.many(roll);
            x.ends(speech, i % 128);
            x.far(speech, 16);
            x.kind(speech, 255);
            x.kinds(255, i % 6);
            x.nearest(speech, 255);
            x.length(255);
            x.one(roll);
            x.settles(roll, 1 << (roll + 1 & 7));
            x.next(1 << roll);
            x.act(roll);
            x.play(i);
            x.wrong(i);
            x.rehearse(255, i);
            x.soon(255);
            x.inside(speech, 16);
            x.tempted(255);
            x.boys(i);
            x.plot(0, i % 4);
            x.bars(0, i % 10, 3, i & 3);
            x.cast(0, i % 10, i & 3);
            x.crowd(0, i & 1);
            x.could(0, i & 3, 5, 5);
            x.worth(roll, 0);
            x.likely(speech, roll);
            x.keep();
            x.back();
            x.count(i % 7);
        };
        atMost("calls of all but orders", () -> {
            for (int i = 0; i < 512; i++) {
                each.accept(i);
            }
        }, 40000);
    }

    public static void main(String[] args) {
        Check check = new Check("RoomTest");
        RoomTest test = new RoomTest(check);
        if (test.threads.isThreadAllocatedMemorySupported()) {
            test.orders();
            test.calls();
        } else {
            check.due("this machine does not tell what is made", true, true);
        }
        check.close();
    }
}
