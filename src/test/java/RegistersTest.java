/** Promises 12 to 24: registers, entries, how far they are, and counts. */
public final class RegistersTest {
    private static final int NONE = NameGuard.NONE;
    private static final int RANGE = NameGuard.RANGE;
    private static final int FULL = NameGuard.FULL;

    private RegistersTest() {
    }

    public static void main(String[] args) {
        promise12();
        promise13();
        strictAsked();
        askedOfWhom();
        promise14();
        enterFull();
        promise15();
        promise16();
        promise17();
        promise18();
        promise19();
        promise20();
        tiesOfWays();
        promise21();
        promise22();
        promise23();
        promise24();
        Check.close("RegistersTest");
    }

    private static void promise12() {
        NameGuard x = new NameGuard();
        Check.due("rule", x.rule(1, 0, 200, true), 1);
        Check.due("refuses", x.count(11), 0);
        Check.due("warns", x.count(21), 200);
        Check.due("strict", x.count(31), 1);
        Check.due("both most", x.rule(1, 200, 200, false), 1);
        Check.due("both none", x.rule(1, 0, 0, false), 1);
        Check.due("refuses below 0", x.rule(1, -1, 5, true), RANGE);
        Check.due("warns beyond", x.rule(1, 0, 201, true), RANGE);
        Check.due("refuses beyond", x.rule(1, 201, 201, true), RANGE);
        Check.due("warns below refuses", x.rule(1, 5, 4, true), RANGE);
        Check.due("register 4", x.rule(4, 1, 2, true), RANGE);
        Check.due("register -1", x.rule(-1, 1, 2, true), RANGE);
        Check.due("unchanged", x.count(21), 0);
        Check.due("unchanged strict", x.count(31), 0);
        Check.due("others as at first", x.count(12), 4);
    }

    private static void promise13() {
        NameGuard x = new NameGuard();
        Check.due("wrong before none", x.ask(4, 0), RANGE);
        Check.due("no name", x.ask(0, 31), NONE);
        Check.confuse(x, "o", "0", 4);
        Check.confuse(x, "l", "1", 5);
        Check.due("let in", Check.enter(x, "lol", 0, 3), 0);
        asked(x, "lol", 3, 3);
        asked(x, "l0l", 2, 0);
        asked(x, "lo1", 1, 0);
        asked(x, "1o1", 0, 0);
        asked(x, "l01", 0, 0);
        x.rule(0, 3, 10, false);
        asked(x, "l0l", 1, 0);
        asked(x, "1o1", 1, 0);
        x.rule(0, 3, 9, false);
        asked(x, "1o1", 0, 0);
        asked(x, "l01", 1, 0);
        Check.due("owner -1", x.ask(0, -1), RANGE);
        Check.due("owner 32", x.ask(0, 32), RANGE);
        Check.due("register -1", x.ask(-1, 0), RANGE);
        Check.due("another register", x.ask(1, 0), 0);
        x.seen('l', 1);
        x.seen('0', 1);
        x.seen('1', 1);
        Check.due("none is seen", x.ask(0, 0), NONE);
        Check.due("none is seen, wrong", x.ask(0, 32), RANGE);
    }

    /** Of owner 3's entry: what another owner is answered, and owner 3. */
    private static void asked(NameGuard x, String text, int other, int own) {
        Check.tell(x, text);
        Check.due("asked for " + text, x.ask(0, 5), other);
        Check.due("asked for " + text + " by its owner", x.ask(0, 3), own);
    }

    private static void strictAsked() {
        NameGuard x = new NameGuard();
        x.script('b', 2);
        Check.tell(x, "ab");
        Check.due("mixed, not strict", x.ask(2, 0), 0);
        x.rule(2, 4, 8, true);
        Check.due("mixed, strict", x.ask(2, 0), 2);
        Check.due("mixed, strict, enter", x.enter(2, 0), -12);
        x.allow(6);
        Check.due("allowed", x.ask(2, 0), 0);
        Check.due("let in", x.enter(2, 0), 0);
        x.script('b', 3);
        Check.due("held before refused", x.ask(2, 0), 3);
        Check.due("held by another", x.ask(2, 1), 3);
        Check.due("not strict elsewhere", x.ask(1, 1), 0);
    }

    private static void askedOfWhom() {
        NameGuard x = new NameGuard();
        Check.confuse(x, "a", "b", 1);
        Check.due("first", Check.enter(x, "a", 0, 1), 0);
        Check.due("own look-alike", Check.enter(x, "b", 0, 1), 1);
        Check.confuse(x, "c", "b", 6);
        Check.tell(x, "c");
        Check.due("nearer of two", x.ask(0, 2), 1);
        x.strike(1);
        Check.due("struck ones have no say", x.ask(0, 2), 1);
        x.rule(0, 0, 6, false);
        Check.due("the other one is farther", x.ask(0, 2), 0);
        Check.tell(x, "b");
        Check.due("struck ones do not hold", x.ask(0, 1), 0);
        x.seen('-', 1);
        Check.tell(x, "-a-");
        Check.due("seen the same", x.ask(0, 7), 3);
        x.seen('-', 0);
        Check.due("not any more", x.ask(0, 7), 0);
        Check.confuse(x, "-a", "a", 0);
        Check.due("cost 0 is not held", Check.tell(x, "-a") + x.ask(0, 7), 2 + 2);
    }

    private static void promise14() {
        NameGuard x = new NameGuard();
        Check.due("no name", x.enter(0, 0), NONE);
        Check.due("wrong", x.enter(0, 32), RANGE);
        Check.due("wrong register", x.enter(4, 0), RANGE);
        Check.confuse(x, "a", "b", 2);
        Check.confuse(x, "a", "c", 7);
        Check.due("first", Check.enter(x, "a", 3, 0), 0);
        Check.due("held", x.enter(3, 0), -13);
        Check.due("another register", x.enter(2, 0), 1);
        Check.due("refused", Check.enter(x, "b", 3, 1), -12);
        Check.due("warned", Check.enter(x, "c", 3, 1), 2);
        Check.due("count", x.count(2), 3);
        x.strike(0);
        Check.due("as it came", Check.enter(x, "a", 3, 1), 3);
        x.seen('a', 1);
        Check.due("none is seen", x.enter(3, 9), NONE);
    }

    private static void enterFull() {
        NameGuard x = new NameGuard();
        int e = 0;
        for (int i = 0; i < 50; i++) {
            Check.tell(x, "n" + i);
            for (int r = 0; r < 4; r++) {
                Check.due("entry", x.enter(r, i % 32), e++);
            }
        }
        Check.due("held before full", x.enter(0, 0), -13);
        Check.due("full", Check.enter(x, "more", 0, 0), FULL);
        Check.due("free all the same", x.ask(0, 0), 0);
        x.rule(0, 4, 8, true);
        x.script('m', 2);
        Check.due("refused before full", x.enter(0, 0), -12);
        x.strike(7);
        Check.due("struck ones keep their room", x.enter(1, 0), FULL);
        Check.due("wrong before full", x.enter(1, -1), RANGE);
        Check.due("count", x.count(2), 200);
        Check.due("standing", x.count(3), 199);
        Check.due("last entry", x.entry(199, 21), '4');
    }

    private static void promise15() {
        NameGuard x = new NameGuard();
        Check.enter(x, "a", 0, 0);
        Check.due("below 0", x.strike(-1), RANGE);
        Check.due("not yet", x.strike(1), RANGE);
        Check.due("far off", x.strike(200), RANGE);
        Check.due("strike", x.strike(0), 1);
        Check.due("again", x.strike(0), RANGE);
        Check.due("standing", x.count(3), 0);
        Check.due("all", x.count(2), 1);
    }

    private static void promise16() {
        NameGuard x = new NameGuard();
        x.seen('-', 1);
        x.seen('<', 2);
        Check.enter(x, "a-<bc", 2, 31);
        int[] want = {2, 31, 5, 3, 1};
        for (int what = 0; what < 5; what++) {
            Check.due("entry(0, " + what + ")", x.entry(0, what), want[what]);
        }
        String told = "a-<bc";
        for (int i = 0; i < 5; i++) {
            Check.due("sign " + i, x.entry(0, 20 + i), told.charAt(i));
        }
        Check.due("sign 5", x.entry(0, 25), NONE);
        Check.due("what 5", x.entry(0, 5), NONE);
        Check.due("what 19", x.entry(0, 19), NONE);
        Check.due("what -1", x.entry(0, -1), NONE);
        Check.due("what most", x.entry(0, Integer.MAX_VALUE), NONE);
        Check.due("no such entry", x.entry(1, 0), NONE);
        Check.due("entry -1", x.entry(-1, 0), NONE);
        Check.due("entry 200", x.entry(200, 0), NONE);
        x.seen('-', 0);
        Check.due("follows the tables", x.entry(0, 3), 4);
        Check.tell(x, "zz");
        Check.due("another name changes nothing", x.entry(0, 20), 'a');
        x.strike(0);
        Check.due("struck", x.entry(0, 4), 0);
        Check.due("its register", x.entry(0, 0), 2);
        Check.due("its owner", x.entry(0, 1), 31);
        Check.due("its signs", x.entry(0, 2), 5);
    }

    private static void promise17() {
        NameGuard x = new NameGuard();
        Check.due("no entry, no name", x.far(0), RANGE);
        Check.enter(x, "corner", 0, 0);
        Check.due("itself", x.far(0), 0);
        Check.due("no such", x.far(1), RANGE);
        Check.due("below 0", x.far(-1), RANGE);
        Check.tell(x, "comer");
        Check.due("no way", x.far(0), NONE);
        Check.confuse(x, "rn", "m", 20);
        Check.due("by one", x.far(0), 20);
        Check.confuse(x, "m", "nn", 2);
        Check.confuse(x, "nn", "rn", 3);
        Check.due("over another piece", x.far(0), 5);
        Check.confuse(x, "co", "c0", 1);
        Check.confuse(x, "0", "o", 4);
        Check.tell(x, "c0rner");
        Check.due("two for two", x.far(0), 1);
        Check.confuse(x, "co", "c0", 9);
        Check.due("one for one is less", x.far(0), 4);
        Check.tell(x, "orner");
        Check.due("nothing left over", x.far(0), NONE);
        x.strike(0);
        Check.due("struck", x.far(0), RANGE);
        farthest();
    }

    /** Forty pieces, each sixty steps away: the most that a way can cost. */
    private static void farthest() {
        NameGuard x = new NameGuard();
        x.seen('-', 1);
        String filler = "-".repeat(16);
        Check.enter(x, "!".repeat(24) + filler, 0, 0);
        Check.tell(x, "]".repeat(24) + filler);
        for (int sign = 33; sign < 93; sign++) {
            x.confuse(sign, sign + 1, 20);
        }
        Check.due("far", x.far(0), 24 * 1200);
        x.seen('-', 0);
        Check.due("far with forty signs", x.far(0), 24 * 1200);
        Check.due("near is bounded", x.near(0, 200), 0);
    }

    private static void promise18() {
        NameGuard x = new NameGuard();
        Check.due("no name", x.near(0, 0), NONE);
        Check.due("wrong before none", x.near(0, 201), RANGE);
        Check.confuse(x, "a", "b", 1);
        Check.confuse(x, "b", "c", 1);
        Check.enter(x, "ac", 0, 0);
        Check.enter(x, "aa", 0, 0);
        Check.enter(x, "bb", 0, 0);
        Check.enter(x, "ca", 0, 0);
        Check.enter(x, "ab", 0, 0);
        Check.enter(x, "zz", 0, 0);
        Check.enter(x, "aa", 1, 0);
        Check.due("cost -1", x.near(0, -1), RANGE);
        Check.due("register 4", x.near(4, 1), RANGE);
        Check.due("register -1", x.near(-1, 1), RANGE);
        nearAre(x, 200, new int[] {1, 0, 4, 1, 0, 2, 2, 2, 3, 2});
        nearAre(x, 2, new int[] {1, 0, 4, 1, 0, 2, 2, 2, 3, 2});
        nearAre(x, 1, new int[] {1, 0, 4, 1});
        nearAre(x, 0, new int[] {1, 0});
        x.strike(1);
        nearAre(x, 1, new int[] {4, 1});
        Check.due("another register", x.near(1, 0), 1);
        Check.due("no entries there", x.near(2, 200), 0);
    }

    private static void nearAre(NameGuard x, int cost, int[] want) {
        int size = want.length / 2;
        Check.due("near " + cost, x.near(0, cost), size);
        for (int i = 0; i < size; i++) {
            Check.due("nearest " + i, x.nearest(i, 0), want[2 * i]);
            Check.due("nearest " + i + " is far", x.nearest(i, 1), want[2 * i + 1]);
        }
        Check.due("none behind", x.nearest(size, 0), NONE);
    }

    private static void promise19() {
        NameGuard x = new NameGuard();
        Check.due("before any", x.nearest(0, 0), NONE);
        Check.confuse(x, "a", "b", 3);
        Check.enter(x, "a", 0, 0);
        Check.tell(x, "b");
        Check.due("near", x.near(0, 3), 1);
        Check.due("below 0", x.nearest(-1, 0), NONE);
        Check.due("what 2", x.nearest(0, 2), NONE);
        Check.due("wrong", x.near(4, 3), RANGE);
        Check.due("the list stays", x.nearest(0, 0), 0);
        Check.due("what -1", x.nearest(0, -1), NONE);
        Check.confuse(x, "a", "b", 5);
        x.strike(0);
        Check.tell(x, "q");
        Check.due("how far it was", x.nearest(0, 1), 3);
        Check.due("which it was", x.nearest(0, 0), 0);
        Check.due("near none", x.near(0, 3), 0);
        Check.due("none then", x.nearest(0, 0), NONE);
        noneSeenIsNear();
    }

    private static void noneSeenIsNear() {
        NameGuard x = new NameGuard();
        Check.enter(x, "a", 0, 0);
        Check.enter(x, "ab", 0, 0);
        x.seen('a', 1);
        Check.tell(x, "b");
        x.seen('b', 1);
        Check.due("nothing is near nothing", x.near(0, 0), 2);
        x.seen('b', 0);
        Check.due("but far from something", x.near(0, 200), 1);
        Check.due("the one that is the same", x.nearest(0, 0), 1);
    }

    private static void wayIs(NameGuard x, int e, String... want) {
        int size = want.length / 3;
        Check.due("ways", x.ways(e), size);
        for (int i = 0; i < size; i++) {
            Check.due("way " + i + " mine", x.way(i, 0), Check.piece(want[3 * i]));
            Check.due("way " + i + " other", x.way(i, 1), Check.piece(want[3 * i + 1]));
            Check.due("way " + i + " cost", x.way(i, 2), Integer.parseInt(want[3 * i + 2]));
        }
        Check.due("none behind", x.way(size, 0), NONE);
    }

    private static void promise20() {
        NameGuard x = new NameGuard();
        Check.due("no entry", x.ways(0), RANGE);
        Check.confuse(x, "rn", "m", 2);
        Check.confuse(x, "m", "nn", 1);
        Check.enter(x, "corn", 0, 0);
        wayIs(x, 0, "c", "c", "0", "o", "o", "0", "r", "r", "0", "n", "n", "0");
        Check.tell(x, "com");
        wayIs(x, 0, "c", "c", "0", "o", "o", "0", "m", "rn", "2");
        Check.tell(x, "conn");
        wayIs(x, 0, "c", "c", "0", "o", "o", "0", "nn", "rn", "3");
        Check.due("below 0", x.ways(-1), RANGE);
        Check.due("beyond", x.ways(1), RANGE);
        Check.tell(x, "q");
        Check.due("no way", x.ways(0), NONE);
        Check.due("the way before stays", x.way(2, 2), 3);
        x.strike(0);
        Check.due("struck", x.ways(0), RANGE);
        Check.due("it stays then too", x.way(2, 0), Check.piece("nn"));
    }

    private static void tiesOfWays() {
        NameGuard x = new NameGuard();
        // "aaa" to "bbbb": which of the pieces is the one that stands for two
        Check.confuse(x, "a", "b", 1);
        Check.confuse(x, "a", "bb", 1);
        Check.confuse(x, "aa", "bb", 2);
        Check.enter(x, "bbbb", 0, 0);
        Check.tell(x, "aaa");
        wayIs(x, 0, "a", "b", "1", "a", "b", "1", "a", "bb", "1");
        Check.tell(x, "aaaa");
        wayIs(x, 0, "a", "b", "1", "a", "b", "1", "a", "b", "1", "a", "b", "1");
        Check.confuse(x, "a", "b", NONE);
        Check.tell(x, "aa");
        wayIs(x, 0, "a", "bb", "1", "a", "bb", "1");
        NameGuard y = new NameGuard();
        // one of x for two of y is told ahead of two of x for one of y, and that ahead of two for two
        Check.confuse(y, "p", "uv", 1);
        Check.confuse(y, "qr", "w", 1);
        Check.confuse(y, "pq", "u", 1);
        Check.confuse(y, "r", "vw", 1);
        Check.confuse(y, "pq", "uv", 1);
        Check.confuse(y, "r", "w", 1);
        Check.enter(y, "uvw", 0, 0);
        Check.tell(y, "pqr");
        wayIs(y, 0, "p", "uv", "1", "qr", "w", "1");
        Check.confuse(y, "qr", "w", NONE);
        wayIs(y, 0, "pq", "u", "1", "r", "vw", "1");
        Check.confuse(y, "r", "vw", NONE);
        wayIs(y, 0, "pq", "uv", "1", "r", "w", "1");
        freeSteps();
    }

    private static void freeSteps() {
        NameGuard x = new NameGuard();
        Check.confuse(x, "vv", "w", 0);
        Check.confuse(x, "v", "w", 0);
        Check.enter(x, "vvw", 0, 0);
        Check.tell(x, "wvv");
        wayIs(x, 0, "w", "v", "0", "v", "v", "0", "v", "w", "0");
        Check.tell(x, "wv");
        wayIs(x, 0, "w", "vv", "0", "v", "w", "0");
    }

    private static void promise21() {
        NameGuard x = new NameGuard();
        Check.due("before any", x.way(0, 0), NONE);
        Check.enter(x, "ab", 0, 0);
        Check.due("ways", x.ways(0), 2);
        Check.due("below 0", x.way(-1, 0), NONE);
        Check.due("beyond", x.way(2, 0), NONE);
        Check.due("what 3", x.way(0, 3), NONE);
        Check.due("what -1", x.way(0, -1), NONE);
        x.seen('a', 1);
        x.seen('b', 1);
        Check.due("the way is of that time", x.way(1, 1), 'b');
        Check.due("from nothing to nothing", x.ways(0), 0);
        Check.due("no piece then", x.way(0, 0), NONE);
    }

    private static void promise22() {
        NameGuard x = new NameGuard();
        Check.due("register 4", x.likes(4), RANGE);
        Check.due("register -1", x.likes(-1), RANGE);
        Check.enter(x, "aa", 0, 0);
        Check.enter(x, "ab", 0, 1);
        Check.enter(x, "bb", 0, 2);
        Check.enter(x, "ba", 0, 1);
        Check.enter(x, "ab", 1, 7);
        Check.due("none alike", x.likes(0), 0);
        Check.confuse(x, "a", "b", 3);
        Check.due("by one sign", x.likes(0), 4);
        x.rule(0, 6, 6, false);
        Check.due("by two signs, owners unlike", x.likes(0), 5);
        x.rule(0, 2, 6, false);
        Check.due("what it warns of has no say", x.likes(0), 0);
        Check.confuse(x, "a", "b", 0);
        x.rule(0, 0, 0, false);
        Check.due("at no cost", x.likes(0), 5);
        x.strike(0);
        Check.due("struck", x.likes(0), 2);
        Check.due("another register", x.likes(1), 0);
        x.seen('a', 1);
        x.seen('b', 1);
        Check.due("nothing is like nothing", x.likes(0), 2);
    }

    private static void promise23() {
        NameGuard x = new NameGuard();
        Check.enter(x, "aa", 0, 0);
        Check.enter(x, "ab", 0, 1);
        Check.enter(x, "bb", 0, 2);
        Check.confuse(x, "a", "b", 2);
        Check.due("likes", x.likes(0), 3);
        int[] want = {0, 1, 2, 0, 2, 4, 1, 2, 2};
        for (int i = 0; i < want.length; i++) {
            Check.due("like(" + i / 3 + ", " + i % 3 + ")", x.like(i / 3, i % 3), want[i]);
        }
        Check.due("beyond", x.like(3, 0), NONE);
        Check.due("below 0", x.like(-1, 0), NONE);
        Check.due("what 3", x.like(0, 3), NONE);
        Check.due("what -1", x.like(0, -1), NONE);
        Check.confuse(x, "a", "b", 1);
        x.strike(2);
        Check.due("as they were", x.like(1, 2), 4);
        Check.due("wrong", x.likes(4), RANGE);
        Check.due("the list stays", x.like(1, 2), 4);
        Check.due("likes", x.likes(0), 1);
        Check.due("how far now", x.like(0, 2), 1);
        Check.due("no more", x.like(1, 0), NONE);
    }

    private static void promise24() {
        NameGuard x = new NameGuard();
        Check.confuse(x, "a", "b", 1);
        Check.confuse(x, "b", "cc", 1);
        Check.confuse(x, "z", "y", 1);
        x.allow(6);
        Check.enter(x, "q", 0, 0);
        Check.enter(x, "qq", 3, 0);
        x.strike(0);
        x.feed(0, 0, 0, 0, 0);
        int[] want = {3, 1, 2, 1, 20, 5};
        for (int what = 0; what < 6; what++) {
            Check.due("count(" + what + ")", x.count(what), want[what]);
        }
        for (int r = 0; r < 4; r++) {
            x.rule(r, r, 10 * r, r % 2 == 1);
        }
        for (int r = 0; r < 4; r++) {
            Check.due("refuses " + r, x.count(10 + r), r);
            Check.due("warns " + r, x.count(20 + r), 10 * r);
            Check.due("strict " + r, x.count(30 + r), r % 2);
        }
        int[] others = {6, 9, 14, 19, 24, 29, 34, 39, 40, 41, 100, 110, -1, -10, -13,
            Integer.MIN_VALUE, Integer.MAX_VALUE};
        for (int what : others) {
            Check.due("count(" + what + ")", x.count(what), NONE);
        }
    }
}
