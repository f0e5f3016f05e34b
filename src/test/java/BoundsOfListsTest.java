import java.util.ArrayList;
import java.util.List;

/** The boundary cases of promises 17 to 24, and of HOW FAR, a test for each sentence that names one. */
public final class BoundsOfListsTest {
    private static final int NONE = NameGuard.NONE;
    private static final int RANGE = NameGuard.RANGE;
    private static final int LEAST = Integer.MIN_VALUE;
    private static final int MOST = Integer.MAX_VALUE;
    private static final int[] NO_ENTRIES = {LEAST, LEAST + 1, -256, -1, 2, 3, 199, 200, 256, 257, 65536, MOST};
    private static final int[] NO_PLACES = {LEAST, LEAST + 1, -65536, -256, -1, 256, 257, 65536, MOST};

    private BoundsOfListsTest() {
    }

    public static void main(String[] args) {
        farNoSuchEntry();
        farNoName();
        farNoSuchWay();
        asManyPieces();
        farOfNothing();
        farOfForty();
        nearOutside();
        nearNoName();
        nearNotFarther();
        nearInOrder();
        nearOfMany();
        nearestOutside();
        nearestAsItWas();
        waysOutside();
        waysOfNothing();
        waysOfForty();
        waysOfFortyToTwenty();
        shorterPieceFirst();
        wayOutside();
        wayOfTheLatestThatToldOne();
        likesOutside();
        likesOfUnlikeOwners();
        likesNotFarther();
        likeOutside();
        likeAsItWas();
        likeOfTheLastEntries();
        pairsFromThe1000thOn();
        countOutside();
        Doc.dueAll(17, 24);
        Check.close("BoundsOfListsTest");
    }

    /** Entry 0 "ab" and entry 1 "cd" of register 0, which is struck; THE NAME is "cd". */
    private static NameGuard deskOfTwo() {
        NameGuard x = new NameGuard();
        Check.enter(x, "ab", 0, 0);
        Check.enter(x, "cd", 0, 0);
        x.strike(1);
        return x;
    }

    private static void farNoSuchEntry() {
        Doc.promise(17, "RANGE: no such ENTRY.");
        NameGuard x = new NameGuard();
        Check.due("none at first", x.far(0), RANGE);
        Check.tell(x, "ab");
        Check.due("none yet", x.far(0), RANGE);
        x = deskOfTwo();
        for (int e : NO_ENTRIES) {
            Check.due("far(" + e + ")", x.far(e), RANGE);
        }
        Check.due("one that is struck", x.far(1), RANGE);
        Check.due("one that stands", x.far(0), NONE);
    }

    private static void farNoName() {
        Doc.promise(17, "NONE: there is no NAME, no such way");
        NameGuard x = new NameGuard();
        Check.tell(x, " ");
        Check.due("no entry is told ahead of no name", x.far(0), RANGE);
        Check.due("nor one far off", x.far(-1), RANGE);
    }

    private static void farNoSuchWay() {
        Doc.termsI("each of x the same as that of y or a CHAIN away: the least sum of costs; none without such a way.");
        NameGuard x = new NameGuard();
        Check.enter(x, "abc", 0, 0);
        far(x, "abc", 0);
        far(x, "abd", NONE);
        far(x, "ab", NONE);
        far(x, "abcc", NONE);
        far(x, "bac", NONE);
        x.confuse('c', 'd', 20);
        far(x, "abd", 20);
        far(x, "dab", NONE);
        x.confuse(Check.piece("bc"), Check.piece("xy"), 3);
        far(x, "axy", 3);
        far(x, "ayx", NONE);
        x.confuse(Check.piece("ab"), 'z', 0);
        far(x, "zc", 0);
        far(x, "zd", 20);
        far(x, "zy", NONE);
        x.confuse('z', 'q', 1);
        far(x, "qc", 1);
        far(x, "qd", 21);
        x.confuse('d', Check.piece("dd"), 2);
        far(x, "qdd", 23);
    }

    private static void far(NameGuard x, String text, int want) {
        Check.tell(x, text);
        Check.due("far from " + text, x.far(0), want);
    }

    private static void asManyPieces() {
        Doc.termsI("parted into as many PIECES, in their order");
        NameGuard x = new NameGuard();
        x.confuse('a', Check.piece("aa"), 1);
        Check.enter(x, "a".repeat(12), 0, 0);
        for (int length = 1; length <= 24; length++) {
            int want = length < 6 ? NONE : Math.abs(12 - length);
            Check.tell(x, "a".repeat(length));
            Check.due("from " + length + " to 12", x.far(0), want);
        }
        Check.enter(x, "a".repeat(11), 1, 0);
        Check.tell(x, "a".repeat(22));
        Check.due("from 22 to 11", x.far(1), 11);
        Check.tell(x, "a".repeat(23));
        Check.due("from 23 to 11", x.far(1), NONE);
    }

    private static void farOfNothing() {
        Doc.promise(17, "How far THE NAME is from an ENTRY that stands");
        NameGuard x = new NameGuard();
        Check.enter(x, "a", 0, 0);
        Check.enter(x, "ab", 0, 0);
        x.seen('a', 1);
        Check.due("nothing from something", x.far(0), NONE);
        Check.tell(x, "b");
        x.seen('b', 1);
        Check.due("nothing from nothing", x.far(0), 0);
        Check.due("nothing from nothing, of two signs", x.far(1), 0);
        x.seen('b', 0);
        Check.due("something from nothing", x.far(0), NONE);
        Check.due("something from the same", x.far(1), 0);
    }

    /** Texts of forty seen signs can be, for tables may change; each piece is a chain of sixty steps away. */
    private static void farOfForty() {
        Doc.termsI("the least sum of costs");
        NameGuard x = new NameGuard();
        x.seen(34, 1);
        x.seen(92, 1);
        Check.enter(x, "!".repeat(24) + "\"".repeat(16), 0, 0);
        Check.tell(x, "]".repeat(24) + "\\".repeat(16));
        for (int sign = 33; sign < 93; sign++) {
            x.confuse(sign, sign + 1, 20);
        }
        Check.due("24 seen", x.far(0), 24 * 1200);
        x.seen(34, 0);
        Check.due("24 from 40", x.far(0), NONE);
        x.seen(92, 0);
        Check.due("40 seen", x.far(0), 24 * 1200 + 16 * 1160);
        Check.due("none is so near", x.near(0, 200), 0);
        Check.due("its way", x.ways(0), 40);
        Check.due("the last piece of it", x.way(39, 2), 1160);
        Check.due("asked for by another one", x.ask(0, 1), 0);
    }

    private static void nearOutside() {
        Doc.promise(18, "not farther from THE NAME than a cost (0 .. 200): how many; RANGE; NONE: no NAME.");
        NameGuard x = new NameGuard();
        NameGuard none = new NameGuard();
        Check.enter(x, "a", 0, 0);
        for (int r : Wrong.REGISTERS) {
            Check.due("register " + r, x.near(r, 5), RANGE);
            Check.due("register " + r + ", no name", none.near(r, 5), RANGE);
        }
        for (int cost : Wrong.BOUNDS) {
            Check.due("cost " + cost, x.near(0, cost), RANGE);
            Check.due("cost " + cost + ", no name", none.near(0, cost), RANGE);
        }
        Check.due("the least cost", x.near(0, 0), 1);
        Check.due("the most", x.near(0, 200), 1);
        Check.due("the last register", x.near(3, 200), 0);
    }

    private static void nearNoName() {
        Doc.promise(18, "NONE: no NAME.");
        NameGuard x = new NameGuard();
        Check.due("none at first", x.near(0, 0), NONE);
        Check.tell(x, "a".repeat(41));
        Check.due("none with a fault", x.near(3, 200), NONE);
        Check.due("no list", x.nearest(0, 0), NONE);
        Check.tell(x, "a");
        Check.due("a name, no entries", x.near(0, 200), 0);
        x.seen('a', 1);
        Check.due("none of it is seen", x.near(0, 200), 0);
    }

    private static void nearNotFarther() {
        Doc.promise(18, "The ENTRIES of a REGISTER that are not farther from THE NAME than a cost");
        NameGuard x = new NameGuard();
        Check.enter(x, "a".repeat(10), 0, 0);
        Check.enter(x, "a".repeat(11), 0, 0);
        Check.enter(x, "a".repeat(10), 1, 0);
        x.confuse('a', 'b', 20);
        x.confuse('a', 'c', 1);
        Check.tell(x, "b".repeat(10));
        Check.due("at 200", x.near(0, 200), 1);
        Check.due("it is far", x.nearest(0, 1), 200);
        Check.due("at 199", x.near(0, 199), 0);
        Check.tell(x, "b".repeat(10) + "c");
        Check.due("201 far", x.far(1), 201);
        Check.due("not at 200", x.near(0, 200), 0);
        Check.tell(x, "a".repeat(9) + "c");
        Check.due("at 1", x.near(0, 1), 1);
        Check.due("not at 0", x.near(0, 0), 0);
        x.strike(0);
        Check.due("struck", x.near(0, 200), 0);
        Check.due("in another register", x.near(1, 1), 1);
        Check.due("its number", x.nearest(0, 0), 2);
    }

    private static void nearInOrder() {
        Doc.promise(18, "They are listed by how far, then as they came.");
        NameGuard x = new NameGuard();
        String order = "dbcabdacbd";
        for (int i = 0; i < order.length(); i++) {
            Check.due("entry", Check.enter(x, "" + (char) ('0' + i) + order.charAt(i), 0, 0), i);
        }
        x.confuse('a', 'b', 1);
        x.confuse('b', 'c', 1);
        x.confuse('c', 'd', 1);
        for (int i = 1; i < order.length(); i++) {
            x.confuse('0', '0' + i, 0);
        }
        Check.tell(x, "0a");
        int[] want = {3, 6, 1, 4, 8, 2, 7, 0, 5, 9};
        int[] costs = {0, 0, 1, 1, 1, 2, 2, 3, 3, 3};
        Check.due("all", x.near(0, 3), 10);
        for (int i = 0; i < 10; i++) {
            Check.due("entry at " + i, x.nearest(i, 0), want[i]);
            Check.due("cost at " + i, x.nearest(i, 1), costs[i]);
        }
        Check.due("but the farthest", x.near(0, 2), 7);
        Check.due("the last of them", x.nearest(6, 0), 7);
        Check.due("none behind", x.nearest(7, 0), NONE);
    }

    private static void nearOfMany() {
        Doc.promise(18, "how many");
        NameGuard x = new NameGuard();
        for (int i = 0; i < 144; i++) {
            int last = 0x61610000 + 256 * ('A' + i / 12) + 'A' + i % 12;
            x.feed(0x61616161, 0x61616161, 0x61616161, 0x61616161, last);
            x.name();
            Check.due("entry " + i, x.enter(0, 0), i);
        }
        for (int i = 1; i < 12; i++) {
            x.confuse('A', 'A' + i, 0);
        }
        Check.due("all", x.near(0, 0), 144);
        Check.due("the first", x.nearest(0, 0), 0);
        Check.due("the last", x.nearest(143, 0), 143);
        Check.due("none behind", x.nearest(144, 0), NONE);
        Check.due("of one owner none are alike", x.likes(0), 0);
    }

    private static void nearestOutside() {
        Doc.promise(19, "NONE when there is none such.");
        NameGuard x = new NameGuard();
        Check.due("before any", x.nearest(0, 0), NONE);
        Check.enter(x, "a", 0, 0);
        Check.due("before any, with an entry", x.nearest(0, 0), NONE);
        x.near(0, 200);
        for (int i : NO_PLACES) {
            Check.due("nearest(" + i + ", 0)", x.nearest(i, 0), NONE);
            Check.due("nearest(" + i + ", 1)", x.nearest(i, 1), NONE);
            Check.due("nearest(0, " + i + ")", x.nearest(0, i), NONE);
        }
        Check.due("behind the last", x.nearest(1, 0), NONE);
        Check.due("what 2", x.nearest(0, 2), NONE);
        Check.due("there is one", x.nearest(0, 0), 0);
        Check.due("far", x.nearest(0, 1), 0);
    }

    private static void nearestAsItWas() {
        Doc.promise(19, "The i-th of those of the latest near(), what 0: ENTRY, 1: how far it was.");
        NameGuard x = new NameGuard();
        x.confuse('a', 'b', 3);
        Check.enter(x, "a", 0, 0);
        Check.enter(x, "b", 0, 0);
        Check.due("two", x.near(0, 3), 2);
        Check.confuse(x, "a", "b", 9);
        x.strike(0);
        Check.tell(x, "zz");
        x.ask(0, 0);
        x.far(1);
        x.likes(0);
        Check.due("a refused one lists nothing", x.near(4, 3), RANGE);
        Check.due("nor one of no such cost", x.near(0, 201), RANGE);
        Check.due("which was the first", x.nearest(0, 0), 1);
        Check.due("how far it was", x.nearest(0, 1), 0);
        Check.due("which was the second", x.nearest(1, 0), 0);
        Check.due("how far the second was", x.nearest(1, 1), 3);
        Check.due("one that finds none", x.near(0, 200), 0);
        Check.due("none then", x.nearest(0, 0), NONE);
    }

    private static void waysOutside() {
        Doc.promise(20, "NONE: none; RANGE.");
        NameGuard x = new NameGuard();
        Check.due("none at first", x.ways(0), RANGE);
        x = deskOfTwo();
        for (int e : NO_ENTRIES) {
            Check.due("ways(" + e + ")", x.ways(e), RANGE);
        }
        Check.due("one that is struck", x.ways(1), RANGE);
        Check.due("one that stands, no way", x.ways(0), NONE);
        Check.due("nothing was told", x.way(0, 0), NONE);
    }

    private static void waysOfNothing() {
        Doc.promise(20, "The way from THE NAME to an ENTRY that stands: how many PIECES");
        NameGuard x = new NameGuard();
        Check.enter(x, "a", 0, 0);
        Check.due("one piece", x.ways(0), 1);
        x.seen('a', 1);
        Check.due("no pieces from nothing to nothing", x.ways(0), 0);
        Check.due("none to tell", x.way(0, 0), NONE);
        Check.tell(x, "b");
        Check.due("no way from something to nothing", x.ways(0), NONE);
        x.seen('b', 1);
        x.seen('a', 0);
        Check.due("no way from nothing to something", x.ways(0), NONE);
    }

    private static void waysOfForty() {
        Doc.promise(21, "Of PIECE i of the latest ways() that told one, what 0: THE NAME's, 1: the other one, 2: the cost");
        NameGuard x = new NameGuard();
        x.seen('-', 1);
        Check.enter(x, "a".repeat(24) + "-".repeat(16), 0, 0);
        Check.tell(x, "b".repeat(20));
        x.seen('-', 0);
        x.confuse('b', Check.piece("aa"), 20);
        x.confuse('b', Check.piece("--"), 19);
        Check.due("twenty to forty", x.ways(0), 20);
        Check.due("the twelfth", x.way(11, 1), Check.piece("aa"));
        Check.due("its cost", x.way(11, 2), 20);
        Check.due("the last", x.way(19, 1), Check.piece("--"));
        Check.due("its cost", x.way(19, 2), 19);
        Check.due("the name's", x.way(19, 0), 'b');
        Check.due("none behind", x.way(20, 0), NONE);
        Check.tell(x, "b".repeat(24));
        Check.due("24 to forty", x.ways(0), NONE);
        x.confuse('b', 'a', 20);
        Check.due("24 to forty by ones and twos", x.ways(0), 24);
        Check.due("the first is one for one", x.way(0, 1), 'a');
        Check.due("the eighth is the last of those", x.way(7, 1), 'a');
        Check.due("the ninth is one for two", x.way(8, 1), Check.piece("aa"));
        Check.due("all of them cost", x.far(0), 16 * 20 + 8 * 19);
    }

    private static void waysOfFortyToTwenty() {
        Doc.promise(20, "The way from THE NAME to an ENTRY that stands: how many PIECES");
        NameGuard x = new NameGuard();
        x.seen('-', 1);
        Check.enter(x, "b".repeat(20), 0, 0);
        Check.enter(x, "b".repeat(19), 0, 0);
        Check.enter(x, "c".repeat(24) + "-".repeat(16), 0, 0);
        Check.tell(x, "a".repeat(24) + "-".repeat(16));
        x.seen('-', 0);
        x.confuse('b', Check.piece("aa"), 20);
        x.confuse('b', Check.piece("--"), 19);
        x.confuse(Check.piece("aa"), Check.piece("cc"), 1);
        Check.due("forty to twenty", x.ways(0), 20);
        Check.due("far", x.far(0), 12 * 20 + 8 * 19);
        for (int i = 0; i < 20; i++) {
            Check.due("the name's, " + i, x.way(i, 0), Check.piece(i < 12 ? "aa" : "--"));
            Check.due("the other one, " + i, x.way(i, 1), 'b');
            Check.due("cost, " + i, x.way(i, 2), i < 12 ? 20 : 19);
        }
        Check.due("forty to nineteen", x.ways(1), NONE);
        Check.due("the one before is told still", x.way(19, 0), Check.piece("--"));
        Check.due("forty to forty by twos and ones", x.ways(2), 12 + 16);
        Check.due("the last two", x.way(11, 0), Check.piece("aa"));
        Check.due("the first one", x.way(12, 0), '-');
        Check.due("the last one", x.way(27, 1), '-');
        Check.due("none behind", x.way(28, 0), NONE);
        Check.due("far by twos", x.far(2), 12);
    }

    private static void shorterPieceFirst() {
        Doc.termsI("the one is told that at the first place at which two part has the shorter PIECE of x, then the "
            + "shorter one of y.");
        // every parting of three signs of each side that can be costs 4 in all, and one is taken away after another
        NameGuard x = new NameGuard();
        Check.enter(x, "uvw", 0, 0);
        Check.tell(x, "pqr");
        step(x, "p", "u", 1);
        step(x, "q", "v", 1);
        step(x, "r", "w", 2);
        step(x, "qr", "vw", 3);
        step(x, "p", "uv", 2);
        step(x, "qr", "w", 2);
        step(x, "pq", "u", 2);
        step(x, "r", "vw", 2);
        step(x, "pq", "uv", 2);
        wayIs(x, "p u 1", "q v 1", "r w 2");
        step(x, "q", "v", NONE);
        wayIs(x, "p u 1", "qr vw 3");
        step(x, "p", "u", NONE);
        wayIs(x, "p uv 2", "qr w 2");
        step(x, "p", "uv", NONE);
        wayIs(x, "pq u 2", "r vw 2");
        step(x, "pq", "u", NONE);
        wayIs(x, "pq uv 2", "r w 2");
        step(x, "pq", "uv", 3);
        wayIs(x, "pq uv 3", "r w 2");
        step(x, "pq", "uv", NONE);
        Check.due("none is left", x.ways(0), NONE);
        cheaperAheadOfShorter();
    }

    private static void cheaperAheadOfShorter() {
        NameGuard x = new NameGuard();
        Check.enter(x, "uv", 0, 0);
        Check.tell(x, "pq");
        step(x, "p", "u", 2);
        step(x, "q", "v", 2);
        step(x, "pq", "uv", 3);
        wayIs(x, "pq uv 3");
        step(x, "pq", "uv", 4);
        wayIs(x, "p u 2", "q v 2");
        Check.tell(x, "uv");
        step(x, "uv", "pq", 0);
        wayIs(x, "u u 0", "v v 0");
    }

    private static void step(NameGuard x, String p, String q, int cost) {
        Check.confuse(x, p, q, cost);
    }

    /** The way to entry 0, each step as its piece of THE NAME, the other one and the cost. */
    private static void wayIs(NameGuard x, String... steps) {
        Check.due("pieces", x.ways(0), steps.length);
        for (int i = 0; i < steps.length; i++) {
            String[] parts = steps[i].split(" ");
            Check.due("piece " + i, x.way(i, 0), Check.piece(parts[0]));
            Check.due("the other " + i, x.way(i, 1), Check.piece(parts[1]));
            Check.due("cost " + i, x.way(i, 2), Integer.parseInt(parts[2]));
        }
        Check.due("none behind", x.way(steps.length, 0), NONE);
    }

    private static void wayOutside() {
        Doc.promise(21, "NONE when there is none such.");
        NameGuard x = new NameGuard();
        Check.due("before any", x.way(0, 0), NONE);
        Check.enter(x, "ab", 0, 0);
        Check.due("before any, with an entry", x.way(0, 0), NONE);
        x.ways(0);
        for (int i : NO_PLACES) {
            Check.due("way(" + i + ", 0)", x.way(i, 0), NONE);
            Check.due("way(" + i + ", 2)", x.way(i, 2), NONE);
            Check.due("way(0, " + i + ")", x.way(0, i), NONE);
        }
        Check.due("behind the last", x.way(2, 0), NONE);
        Check.due("what 3", x.way(0, 3), NONE);
        Check.due("the last", x.way(1, 0), 'b');
    }

    private static void wayOfTheLatestThatToldOne() {
        Doc.promise(21, "the latest ways() that told one");
        NameGuard x = new NameGuard();
        x.confuse('a', 'b', 3);
        Check.enter(x, "a", 0, 0);
        Check.enter(x, "cc", 0, 0);
        Check.tell(x, "b");
        Check.due("one", x.ways(0), 1);
        Check.due("no such way", x.ways(1), NONE);
        Check.due("no such entry", x.ways(2), RANGE);
        Check.due("it is told still", x.way(0, 2), 3);
        x.confuse('a', 'b', 9);
        x.strike(0);
        Check.due("struck", x.ways(0), RANGE);
        Check.tell(x, "cc");
        x.far(1);
        x.near(0, 200);
        x.likes(0);
        Check.due("as it was", x.way(0, 2), 3);
        Check.due("the name's, as it was", x.way(0, 0), 'b');
        Check.due("the other one, as it was", x.way(0, 1), 'a');
        Check.due("none behind", x.way(1, 0), NONE);
        Check.due("another one", x.ways(1), 2);
        Check.due("is told then", x.way(0, 0), 'c');
        x.seen('c', 1);
        Check.due("one without pieces", x.ways(1), 0);
        Check.due("is told then, too", x.way(0, 0), NONE);
    }

    private static void likesOutside() {
        Doc.promise(22, "are not farther than it refuses; RANGE.");
        NameGuard x = new NameGuard();
        for (int r : Wrong.REGISTERS) {
            Check.due("likes(" + r + ")", x.likes(r), RANGE);
        }
        for (int r = 0; r < 4; r++) {
            Check.due("none in " + r, x.likes(r), 0);
        }
        Check.enter(x, "a", 3, 0);
        Check.enter(x, "b", 3, 1);
        x.confuse('a', 'b', 4);
        Check.due("one in the last register", x.likes(3), 1);
        Check.due("none elsewhere", x.likes(0), 0);
        Check.due("none to tell then", x.like(0, 0), NONE);
    }

    private static void likesOfUnlikeOwners() {
        Doc.promise(22, "How many pairs of ENTRIES that stand in a REGISTER, of unlike OWNERS");
        NameGuard x = new NameGuard();
        Check.enter(x, "a", 0, 0);
        Check.enter(x, "b", 0, 31);
        Check.enter(x, "c", 0, 0);
        Check.enter(x, "d", 1, 5);
        for (String other : new String[] {"b", "c", "d"}) {
            Check.confuse(x, "a", other, 0);
        }
        Check.due("the one of owner 31 with both others", x.likes(0), 2);
        Check.due("one alone is in no pair", x.likes(1), 0);
        x.strike(1);
        Check.due("struck", x.likes(0), 0);
        Check.due("in again, for owner 0", Check.enter(x, "b", 0, 0), 4);
        Check.due("all of one owner", x.likes(0), 0);
    }

    private static void likesNotFarther() {
        Doc.promise(22, "are not farther than it refuses");
        NameGuard x = new NameGuard();
        Check.enter(x, "aaaaaaaaaa", 0, 0);
        Check.enter(x, "bbbbbbbbbb", 0, 1);
        x.confuse('a', 'b', 20);
        Check.due("200 is farther than 4", x.likes(0), 0);
        x.rule(0, 199, 200, false);
        Check.due("200 is farther than 199", x.likes(0), 0);
        x.rule(0, 200, 200, false);
        Check.due("200 is not farther than 200", x.likes(0), 1);
        Check.due("how far", x.like(0, 2), 200);
        x.confuse('a', 'b', 1);
        x.rule(0, 9, 200, false);
        Check.due("10 is farther than 9", x.likes(0), 0);
        x.rule(0, 10, 10, true);
        Check.due("10 is not farther than 10", x.likes(0), 1);
        x.rule(0, 0, 0, false);
        Check.due("10 is farther than 0", x.likes(0), 0);
        x.confuse('a', 'b', 0);
        Check.due("0 is not farther than 0", x.likes(0), 1);
        x.confuse('a', 'b', NONE);
        x.rule(0, 200, 200, false);
        Check.due("no way is farther than all", x.likes(0), 0);
        x.seen('a', 1);
        x.seen('b', 1);
        Check.due("nothing is not far from nothing", x.likes(0), 1);
    }

    private static void likeOutside() {
        Doc.promise(23, "NONE when there is none such");
        NameGuard x = new NameGuard();
        Check.due("before any", x.like(0, 0), NONE);
        Check.enter(x, "a", 0, 0);
        Check.enter(x, "b", 0, 1);
        x.confuse('a', 'b', 4);
        Check.due("before likes()", x.like(0, 0), NONE);
        x.likes(0);
        for (int i : NO_PLACES) {
            Check.due("like(" + i + ", 0)", x.like(i, 0), NONE);
            Check.due("like(" + i + ", 2)", x.like(i, 2), NONE);
            Check.due("like(0, " + i + ")", x.like(0, i), NONE);
        }
        Check.due("behind the last", x.like(1, 0), NONE);
        Check.due("what 3", x.like(0, 3), NONE);
        Check.due("the lesser", x.like(0, 0), 0);
        Check.due("the other", x.like(0, 1), 1);
        Check.due("how far", x.like(0, 2), 4);
    }

    private static void likeAsItWas() {
        Doc.promise(23, "Of the latest likes(), pair i (by the lesser ENTRY, then the other), what 0, 1: the ENTRIES, 2: "
            + "how far they were.");
        NameGuard x = new NameGuard();
        for (int i = 0; i < 4; i++) {
            Check.enter(x, "" + (char) ('a' + i), 0, i);
        }
        x.confuse('a', 'd', 1);
        x.confuse('b', 'd', 2);
        x.confuse('c', 'd', 0);
        int[][] pairs = {{0, 1, 3}, {0, 2, 1}, {0, 3, 1}, {1, 2, 2}, {1, 3, 2}, {2, 3, 0}};
        Check.due("pairs", x.likes(0), 6);
        x.confuse('c', 'd', NONE);
        x.rule(0, 0, 0, true);
        x.strike(0);
        x.near(0, 200);
        Check.due("a refused one lists nothing", x.likes(4), RANGE);
        for (int i = 0; i < 6; i++) {
            for (int what = 0; what < 3; what++) {
                Check.due("like(" + i + ", " + what + ")", x.like(i, what), pairs[i][what]);
            }
        }
        Check.due("one that finds none", x.likes(0), 0);
        Check.due("none then", x.like(0, 0), NONE);
    }

    /** The greatest numbers that a pair can have, with the greatest cost. */
    private static void likeOfTheLastEntries() {
        Doc.termsII("ENTRIES, at most 200 of all REGISTERS");
        NameGuard x = new NameGuard();
        for (int i = 0; i < 50; i++) {
            x.feed(0x61616161, 0x61616161, 0x62626262, 0x62626262, 0x62622121 + i);
            x.name();
            int[] order = i == 49 ? new int[] {0, 1, 2, 3} : new int[] {3, 2, 1, 0};
            for (int r : order) {
                x.enter(r, i == 49 ? 31 : i % 31);
            }
        }
        Check.due("all", x.count(2), 200);
        x.confuse('!', '!' + 49, 20);
        for (int i = 0; i < 4; i++) {
            x.rule(i, 20, 20, false);
            Check.due("one pair in register " + i, x.likes(i), 1);
            Check.due("the lesser", x.like(0, 0), 3 - i);
            Check.due("the other", x.like(0, 1), 196 + i);
            Check.due("how far", x.like(0, 2), 20);
        }
        Check.due("far from the last one", x.far(199), 0);
        Check.due("its way", x.ways(199), 20);
        Check.due("near by the last one alone", x.near(3, 0), 1);
        Check.due("its number", x.nearest(0, 0), 199);
        Check.due("held by the last one", x.ask(3, 0), 3);
        x.strike(199);
        Check.due("refused for the first one of it", x.ask(3, 31), 2);
    }

    private static void pairsFromThe1000thOn() {
        Doc.promise(23, "pairs from the 1000th on are not told");
        // how many owners have seven entries, four, three, two: 46 entries make 1035 pairs but those of one owner
        toldPairs(new int[] {7, 4, 3, 2, 2, 2, 2, 2, 2}, 999);
        toldPairs(new int[] {7, 4, 3, 2, 2, 2, 2, 2}, 1000);
        toldPairs(new int[] {7, 4, 3, 2, 2, 2, 2}, 1001);
        toldPairs(new int[] {2, 2, 2, 2, 2, 2, 2, 2, 2, 2, 2, 2, 2, 2}, 1021);
    }

    private static void toldPairs(int[] entriesOfOwners, int all) {
        int[] owners = new int[46];
        int at = 0;
        for (int owner = 0; at < owners.length; owner++) {
            int size = owner < entriesOfOwners.length ? entriesOfOwners[owner] : 1;
            for (int n = 0; n < size; n++) {
                owners[at++] = owner;
            }
        }
        List<int[]> want = new ArrayList<>();
        for (int e = 0; e < owners.length; e++) {
            for (int f = e + 1; f < owners.length; f++) {
                if (owners[e] != owners[f]) {
                    want.add(new int[] {e, f, (e == 0 ? 0 : 1 + e % 2) + 1 + f % 2});
                }
            }
        }
        Check.due("pairs that are due", want.size(), all);
        for (int from = 0; from < all; from += 90) {
            NameGuard x = deskOfPairs(owners);
            Check.due("all are counted", x.likes(0), all);
            for (int i = from; i < all && i < from + 90; i++) {
                for (int what = 0; what < 3; what++) {
                    Check.due("pair " + i + " of " + all, x.like(i, what), i < 1000 ? want.get(i)[what] : NONE);
                }
            }
            Check.due("none behind the last", x.like(all, 0), NONE);
            Check.due("pair 1000", x.like(1000, 0), NONE);
        }
    }

    /** Texts that differ in their last sign alone; that of entry 0 is taken for each of the others at 1 or 2. */
    private static NameGuard deskOfPairs(int[] owners) {
        NameGuard x = new NameGuard();
        for (int i = 0; i < owners.length; i++) {
            x.feed(0x7A7A7A7A, 0x7A7A7A7A, 0x7A7A7A7A, 0x7A7A7A7A, 0x7A7A7A00 + '0' + i);
            x.name();
            x.enter(0, owners[i]);
        }
        for (int i = 1; i < owners.length; i++) {
            x.confuse('0', '0' + i, 1 + i % 2);
        }
        return x;
    }

    private static void countOutside() {
        Doc.promise(24, "10 + r, 20 + r, 30 + r: bounds of REGISTER r, and whether it is STRICT. NONE for others.");
        NameGuard x = new NameGuard();
        for (int r = 0; r < 4; r++) {
            x.rule(r, 50 + r, 60 + r, r % 2 == 0);
        }
        for (int what = -45; what <= 260; what++) {
            int want = NONE;
            if (what >= 0 && what < 6) {
                want = 0;
            } else if (what >= 10 && what < 40 && what % 10 < 4) {
                int r = what % 10;
                want = what < 20 ? 50 + r : what < 30 ? 60 + r : 1 - r % 2;
            }
            Check.due("count(" + what + ")", x.count(what), want);
        }
        for (int what : new int[] {LEAST, LEAST + 10, -65536, 65536, 65546, 1 << 30, MOST - 3, MOST}) {
            Check.due("count(" + what + ")", x.count(what), NONE);
        }
        countOfEach();
    }

    private static void countOfEach() {
        Doc.promise(24, "What 0: CONFUSIONS, 1: SETS, 2: ENTRIES (struck ones, too), 3: those that stand, 4: bytes of THE "
            + "TAPE, 5: PIECES of CONFUSIONS");
        NameGuard x = new NameGuard();
        counts(x, 0, 0, 0, 0, 0, 0);
        x.confuse('a', 'b', 0);
        counts(x, 1, 0, 0, 0, 0, 2);
        x.confuse('b', 'c', 20);
        counts(x, 2, 0, 0, 0, 0, 3);
        x.confuse('c', 'a', 20);
        counts(x, 3, 0, 0, 0, 0, 3);
        x.confuse('b', 'a', NONE);
        counts(x, 2, 0, 0, 0, 0, 3);
        x.confuse('b', 'c', NONE);
        counts(x, 1, 0, 0, 0, 0, 2);
        x.confuse('c', 'a', NONE);
        counts(x, 0, 0, 0, 0, 0, 0);
        x.allow(2);
        Check.tell(x, "a");
        x.enter(0, 0);
        x.enter(3, 0);
        x.feed(0, 0, 0, 0, 0);
        counts(x, 0, 1, 2, 2, 20, 0);
        x.strike(0);
        x.end(7);
        counts(x, 0, 1, 2, 1, 7, 0);
        x.strike(1);
        x.name();
        counts(x, 0, 1, 2, 0, 0, 0);
    }

    private static void counts(NameGuard x, int... want) {
        for (int what = 0; what < want.length; what++) {
            Check.due("count(" + what + ")", x.count(what), want[what]);
        }
    }
}
