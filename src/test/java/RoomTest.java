import com.sun.management.ThreadMXBean;
import java.lang.management.ManagementFactory;

/** Rule 12 of ../shared/LANGUAGE.md: what calls make, garbage too, is small, for all calls of a run live in one room. */
public final class RoomTest {
    /** An element of this class's rows has four bytes; fields and heads of objects only make the count too high. */
    private static final int BYTES = 4;
    private static final int MOST_OF_A_NEW_OBJECT = 5_000;
    private static final int MOST_OF_ONE_NAME = 200;
    private static final int MOST_OF_512_CALLS = 40_000;

    private static final ThreadMXBean THREADS = (ThreadMXBean) ManagementFactory.getThreadMXBean();
    private static NameGuard kept = new NameGuard();

    private RoomTest() {
    }

    public static void main(String[] args) {
        // the first time round the machine makes things of its own
        measureAll();
        measureAll();
        measureAll();
        long[] took = measureAll();
        dueAtMost("a new object", took[0], MOST_OF_A_NEW_OBJECT);
        dueAtMost("a name of forty signs that is let in", took[1], MOST_OF_ONE_NAME);
        dueAtMost("512 calls that tell as many names as they can", took[2], MOST_OF_512_CALLS);
        dueAtMost("512 calls that change confusions and ask for chains", took[3], MOST_OF_512_CALLS);
        dueAtMost("500 calls that only ask", took[4], 0);
        Check.close("RoomTest");
    }

    private static long[] measureAll() {
        return new long[] {
            newObject(), oneName(), manyNames(), manyChains(), onlyAsking(),
        };
    }

    private static void dueAtMost(String what, long got, long most) {
        Check.due(what + ": elements", Math.max(got, most), most);
    }

    private static long made() {
        return THREADS.getCurrentThreadAllocatedBytes();
    }

    private static long newObject() {
        long before = made();
        kept = new NameGuard();
        return (made() - before) / BYTES;
    }

    private static void layForty(NameGuard x, int first) {
        int dashes = 0x2D2D2D2D;
        x.feed(first, 0x61616161, 0x61616161, 0x61616161, dashes);
        x.feed(dashes, dashes, dashes, dashes, dashes);
    }

    private static long oneName() {
        NameGuard x = new NameGuard();
        x.seen('-', 1);
        long before = made();
        layForty(x, 0x61626364);
        x.name();
        int entry = x.enter(0, 0);
        long took = (made() - before) / BYTES;
        Check.due("it is let in", entry, 0);
        return took;
    }

    private static long manyNames() {
        NameGuard x = new NameGuard();
        x.seen('-', 1);
        int told = 0;
        long before = made();
        for (int calls = 1; calls + 3 <= 512; calls += 3) {
            layForty(x, 0x61616161 + told % 26);
            told += x.name() > 0 ? 1 : 0;
        }
        long took = (made() - before) / BYTES;
        Check.due("names told", told, 170);
        return took;
    }

    private static long manyChains() {
        NameGuard x = new NameGuard();
        int answers = 0;
        long before = made();
        for (int calls = 0; calls + 2 <= 512; calls += 2) {
            int first = 256 * ('!' + calls / 2 % 90);
            x.confuse(first + 'a', first + 'b', calls % 21);
            answers += x.chain(first + 'a', first + 'b') == NameGuard.RANGE ? 1 : 0;
        }
        long took = (made() - before) / BYTES;
        Check.due("wrong ones", answers, 0);
        Check.due("confusions", x.count(0), 60);
        return took;
    }

    private static long onlyAsking() {
        NameGuard x = new NameGuard();
        x.confuse('a', 'b', 9);
        for (int owner = 0; owner < 2; owner++) {
            x.feed(0x61616161 + owner, 0x61616161, 0x61616161, 0x61616161, 0x61616161);
            x.name();
            Check.due("entry", x.enter(0, owner), owner);
        }
        x.count(5);
        long before = made();
        for (int n = 0; n < 50; n++) {
            x.ask(0, 3);
            x.far(0);
            x.ways(0);
            x.near(0, 200);
            x.likes(0);
            x.rule(0, n, 200, false);
            x.chain('a', 'b');
            x.about(3);
            x.entry(0, 3);
            x.name();
        }
        return (made() - before) / BYTES;
    }
}
