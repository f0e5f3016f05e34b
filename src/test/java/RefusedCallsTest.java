import java.util.ArrayList;
import java.util.List;
import java.util.function.ToIntFunction;

/** A call that is refused, and one that only tells, leaves all that can be asked for as it was. */
public final class RefusedCallsTest {
    private static final int NONE = NameGuard.NONE;
    private static final int RANGE = NameGuard.RANGE;
    private static final int FULL = NameGuard.FULL;
    private static final int[] PARTS = {33, 'a', 'b', 'c', 'o', '0', 126, Check.piece("rn"), Check.piece("aa")};

    private RefusedCallsTest() {
    }

    public static void main(String[] args) {
        tapeAndTables();
        theName();
        registers();
        lists();
        fullTables();
        fullOfEntries();
        listsOfTheirOwn();
        Check.close("RefusedCallsTest");
    }

    /** A desk with something of everything, a fault and bytes on the tape. */
    private static NameGuard desk() {
        NameGuard x = new NameGuard();
        x.seen('-', 1);
        x.seen('<', 2);
        x.script('b', 2);
        x.script('c', 3);
        x.allow(6);
        x.confuse('o', '0', 2);
        x.confuse(Check.piece("rn"), 'm', 3);
        x.rule(2, 1, 5, true);
        Check.enter(x, "corn", 0, 0);
        Check.enter(x, "c0rn", 1, 1);
        Check.enter(x, "zebra", 0, 2);
        x.strike(2);
        Check.enter(x, "-com<ab", 0, 0);
        x.confuse('b', 'a', 1);
        Check.enter(x, "bb", 0, 4);
        Check.enter(x, "aa", 0, 4);
        x.rule(0, 10, 10, false);
        Check.enter(x, "dd", 0, 5);
        x.confuse('d', 'a', 4);
        Check.enter(x, "c0m", 0, 0);
        Check.tell(x, "bab");
        Check.tell(x, "com");
        x.ways(0);
        x.near(0, 200);
        x.likes(0);
        Check.tell(x, "x y");
        Check.lay(x, "tape");
        return x;
    }

    /** The full tables beside a few entries. */
    private static NameGuard fullDesk() {
        NameGuard x = desk();
        for (int i = 0; x.count(0) < 60; i++) {
            x.confuse(Check.piece("!!") + i, Check.piece("%!") + i, i % 21);
        }
        for (int i = 1; x.count(1) < 8; i++) {
            x.allow(2 * i);
        }
        x.end(0);
        for (int i = 0; i < 10; i++) {
            x.feed(0x61626364, 0, 0, 0, 0);
        }
        return x;
    }

    /** Everything that calls can tell of a desk; THE TAPE is told last, for this takes it away. */
    private static List<Integer> all(NameGuard x) {
        List<Integer> out = new ArrayList<>();
        for (int what = 0; what < 40; what++) {
            out.add(x.count(what));
        }
        out.add(x.fault(0));
        out.add(x.fault(1));
        for (int what = 0; what < 44; what++) {
            out.add(x.about(what));
        }
        rows(out, x);
        for (int e = 0; e < x.count(2); e++) {
            for (int what = 0; what < 5; what++) {
                out.add(x.entry(e, what));
            }
            out.add(x.entry(e, 20));
        }
        for (int i = 0; i + 1 < PARTS.length; i++) {
            out.add(x.chain(PARTS[i], PARTS[i + 1]));
        }
        for (int sign : new int[] {33, 'a', 'b', '-', '<', 126}) {
            out.add(x.seen(sign, 0));
            out.add(x.script(sign, 0));
        }
        x.end(12);
        out.add(x.name());
        out.add(x.fault(0));
        out.add(x.about(20));
        return out;
    }

    private static void rows(List<Integer> out, NameGuard x) {
        for (int i = 0; x.nearest(i, 0) != NONE; i++) {
            out.add(x.nearest(i, 0));
            out.add(x.nearest(i, 1));
        }
        for (int i = 0; x.way(i, 0) != NONE; i++) {
            out.add(x.way(i, 0));
            out.add(x.way(i, 1));
            out.add(x.way(i, 2));
        }
        for (int i = 0; x.like(i, 0) != NONE; i++) {
            out.add(x.like(i, 0));
            out.add(x.like(i, 1));
            out.add(x.like(i, 2));
        }
    }

    private static void leaves(String call, ToIntFunction<NameGuard> refused, int answer) {
        NameGuard x = desk();
        Check.due(call, refused.applyAsInt(x), answer);
        Check.dueText("all that is told after " + call, all(x).toString(), all(desk()).toString());
    }

    private static void leavesFull(String call, ToIntFunction<NameGuard> refused, int answer) {
        NameGuard x = fullDesk();
        Check.due(call, refused.applyAsInt(x), answer);
        Check.dueText("all that is told after " + call, all(x).toString(), all(fullDesk()).toString());
    }

    private static void tapeAndTables() {
        leaves("end(-1)", x -> x.end(-1), NONE);
        leaves("end(5) of 4", x -> x.end(5), NONE);
        leaves("end(4) of 4", x -> x.end(4), 4);
        for (int sign : Wrong.SIGNS) {
            leaves("script(" + sign + ", 5)", x -> x.script(sign, 5), RANGE);
            leaves("seen(" + sign + ", 1)", x -> x.seen(sign, 1), RANGE);
        }
        for (int number : new int[] {-1, 8, 257, Integer.MIN_VALUE, Integer.MAX_VALUE}) {
            leaves("script('a', " + number + ")", x -> x.script('a', number), RANGE);
            leaves("seen('a', " + number + ")", x -> x.seen('a', number), RANGE);
        }
        leaves("seen('a', 3)", x -> x.seen('a', 3), RANGE);
        for (int piece : Wrong.PIECES) {
            leaves("confuse(" + piece + ", 'o', 1)", x -> x.confuse(piece, 'o', 1), RANGE);
            leaves("confuse('o', " + piece + ", none)", x -> x.confuse('o', piece, NONE), RANGE);
            leaves("chain('o', " + piece + ")", x -> x.chain('o', piece), RANGE);
        }
        for (int cost : Wrong.COSTS) {
            leaves("confuse('o', '0', " + cost + ")", x -> x.confuse('o', '0', cost), RANGE);
            leaves("confuse('x', 'y', " + cost + ")", x -> x.confuse('x', 'y', cost), RANGE);
        }
        leaves("confuse('o', 'o', none)", x -> x.confuse('o', 'o', NONE), RANGE);
        leaves("confuse('x', 'y', none)", x -> x.confuse('x', 'y', NONE), NONE);
        leaves("chain('o', '0')", x -> x.chain('o', '0'), 2);
        leaves("chain('o', 'x')", x -> x.chain('o', 'x'), NONE);
        for (int set : new int[] {-2, 0, 1, 7, 255, 256, 262, Integer.MIN_VALUE + 6}) {
            leaves("allow(" + set + ")", x -> x.allow(set), RANGE);
        }
        leaves("allow(6) again", x -> x.allow(6), 1);
    }

    private static void theName() {
        for (int what : new int[] {-1, 2, 7, 19, 23, 60, Integer.MAX_VALUE}) {
            leaves("fault(" + what + ")", x -> x.fault(what), NONE);
            leaves("about(" + what + ")", x -> x.about(what == 2 ? 44 : what), NONE);
        }
        leaves("about(1)", x -> x.about(1), 3);
        leaves("fault(0)", x -> x.fault(0), 1);
    }

    private static void registers() {
        for (int r : Wrong.REGISTERS) {
            leaves("rule(" + r + ", ..)", x -> x.rule(r, 1, 2, true), RANGE);
            leaves("ask(" + r + ", 0)", x -> x.ask(r, 0), RANGE);
            leaves("enter(" + r + ", 0)", x -> x.enter(r, 0), RANGE);
        }
        for (int bound : Wrong.BOUNDS) {
            leaves("rule(0, " + bound + ", 200)", x -> x.rule(0, bound, 200, true), RANGE);
            leaves("rule(0, 0, " + bound + ")", x -> x.rule(0, 0, bound, true), RANGE);
        }
        leaves("rule(0, 5, 4)", x -> x.rule(0, 5, 4, true), RANGE);
        for (int owner : Wrong.OWNERS) {
            leaves("ask(0, " + owner + ")", x -> x.ask(0, owner), RANGE);
            leaves("enter(0, " + owner + ")", x -> x.enter(0, owner), RANGE);
        }
        leaves("ask(0, 0)", x -> x.ask(0, 0), 0);
        leaves("ask(0, 9)", x -> x.ask(0, 9), 2);
        leaves("enter(0, 9), refused", x -> x.enter(0, 9), -12);
        leaves("enter(0, 0), none is seen", x -> x.seen('c', 1) + x.seen('o', 1) + x.seen('m', 1) + x.enter(0, 0)
            + x.seen('c', 0) + x.seen('o', 0) + x.seen('m', 0), NONE + 3);
        for (int e : new int[] {-1, 2, 8, 200, Integer.MIN_VALUE, Integer.MAX_VALUE}) {
            leaves("strike(" + e + ")", x -> x.strike(e), RANGE);
            leaves("far(" + e + ")", x -> x.far(e), RANGE);
            leaves("ways(" + e + ")", x -> x.ways(e), RANGE);
            leaves("entry(" + e + ", 5)", x -> x.entry(e, 5), NONE);
        }
        leaves("entry(0, 24)", x -> x.entry(0, 24), NONE);
    }

    private static void lists() {
        for (int r : Wrong.REGISTERS) {
            leaves("near(" + r + ", 5)", x -> x.near(r, 5), RANGE);
            leaves("likes(" + r + ")", x -> x.likes(r), RANGE);
        }
        for (int bound : Wrong.BOUNDS) {
            leaves("near(0, " + bound + ")", x -> x.near(0, bound), RANGE);
        }
        leaves("far(0)", x -> x.far(0), 3);
        leaves("far(4)", x -> x.far(4), NONE);
        leaves("ways(4), no way", x -> x.ways(4), NONE);
        for (int i : new int[] {-1, 99, 1000, Integer.MIN_VALUE, Integer.MAX_VALUE}) {
            leaves("nearest(" + i + ", 0)", x -> x.nearest(i, 0), NONE);
            leaves("nearest(0, " + i + ")", x -> x.nearest(0, i), NONE);
            leaves("way(" + i + ", 0)", x -> x.way(i, 0), NONE);
            leaves("way(0, " + i + ")", x -> x.way(0, i), NONE);
            leaves("like(" + i + ", 0)", x -> x.like(i, 0), NONE);
            leaves("like(0, " + i + ")", x -> x.like(0, i), NONE);
            leaves("count(" + i + ")", x -> x.count(i), NONE);
        }
    }

    private static void fullTables() {
        NameGuard x = fullDesk();
        Check.due("confusions", x.count(0), 60);
        Check.due("sets", x.count(1), 8);
        Check.due("bytes", x.count(4), 200);
        leavesFull("feed", y -> y.feed(0x7A7A7A7A, 0x7A7A7A7A, 0x7A7A7A7A, 0x7A7A7A7A, 0x7A7A7A7A), FULL);
        leavesFull("end(201)", y -> y.end(201), NONE);
        leavesFull("confuse", y -> y.confuse('a', 126, 1), FULL);
        leavesFull("confuse with no such cost", y -> y.confuse('a', 126, 21), RANGE);
        leavesFull("confuse, none any more", y -> y.confuse('a', 126, NONE), NONE);
        leavesFull("confuse as it was", y -> y.confuse('0', 'o', 2), 2);
        leavesFull("allow", y -> y.allow(254), FULL);
        leavesFull("allow of no script", y -> y.allow(0), RANGE);
        leavesFull("allow again", y -> y.allow(6), 8);
    }

    private static NameGuard crowdedDesk() {
        NameGuard x = new NameGuard();
        for (int i = 0; i < 50; i++) {
            x.feed(0x61616161, 0x61616161, 0x61616161, 0x61616161, 0x61616121 + i);
            x.name();
            for (int r = 0; r < 4; r++) {
                x.enter(r, i % 32);
            }
        }
        x.near(2, 200);
        x.ways(0);
        x.likes(3);
        Check.tell(x, "b");
        return x;
    }

    private static void fullOfEntries() {
        for (int r = 0; r < 4; r++) {
            NameGuard x = crowdedDesk();
            Check.due("enter(" + r + ", 5)", x.enter(r, 5), FULL);
            for (int what = 0; what < 40; what++) {
                Check.due("count(" + what + ")", x.count(what), crowdedDesk().count(what));
            }
            Check.due("no entry 200", x.entry(200, 4), NONE);
            Check.due("the last one", x.entry(199, 39), 0x21 + 49);
            Check.due("its owner", x.entry(199, 1), 49 % 32);
            Check.due("the list", x.nearest(0, 0), 198);
            Check.due("the name", x.about(20), 'b');
            Check.due("it is free still", x.ask(r, 5), 0);
        }
    }

    /** Each of the three lists is its own: the call that makes one leaves the others. */
    private static void listsOfTheirOwn() {
        NameGuard x = desk();
        List<Integer> before = new ArrayList<>();
        rows(before, x);
        Check.due("there are rows", before.size() > 12 ? 1 : 0, 1);
        Check.due("near as it was", x.near(0, 200), 2);
        Check.due("ways as it was", x.ways(0), 3);
        Check.due("likes as it was", x.likes(0), 2);
        List<Integer> after = new ArrayList<>();
        rows(after, x);
        Check.dueText("the same rows again", after.toString(), before.toString());
        Check.due("near none", x.near(3, 200), 0);
        Check.due("the way stays", x.way(2, 2), 3);
        Check.due("the pairs stay", x.like(1, 1), 6);
        Check.due("near again", x.near(0, 200), 2);
        Check.due("likes none", x.likes(3), 0);
        Check.due("the near ones stay", x.nearest(1, 1), 3);
        Check.due("no pairs", x.like(0, 0), NONE);
        Check.tell(x, "bb");
        Check.due("another way", x.ways(4), 2);
        Check.due("the near ones stay then", x.nearest(1, 1), 3);
        Check.due("the way is another one", x.way(0, 2), 0);
    }
}
