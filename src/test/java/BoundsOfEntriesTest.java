/** The boundary cases of promises 12 to 16, and of the terms they use, a test for each sentence that names one. */
public final class BoundsOfEntriesTest {
    private static final int NONE = NameGuard.NONE;
    private static final int RANGE = NameGuard.RANGE;
    private static final int FULL = NameGuard.FULL;
    private static final int LEAST = Integer.MIN_VALUE;
    private static final int MOST = Integer.MAX_VALUE;

    private BoundsOfEntriesTest() {
    }

    public static void main(String[] args) {
        registersAtFirst();
        ruleOutside();
        ruleSecondBelowFirst();
        askOutside();
        askOfNoName();
        askOfNoneSeen();
        boundsAtFirst();
        boundsAtTheirEnds();
        boundsOfLongerPieces();
        nearestOfSeveral();
        strictOnes();
        heldOfWhomever();
        heldSignBySign();
        refusedByOthersAlone();
        anotherRegisterHasNoSay();
        enterNotLetIn();
        enterOutside();
        enterNumbers();
        enterFull();
        strikeOutside();
        strikeAlready();
        entryOutside();
        entryOfLongTexts();
        entryFollowsTheTables();
        whatIsInStays();
        theNameIsTheLatest();
        Doc.dueAll(12, 16);
        Check.close("BoundsOfEntriesTest");
    }

    private static void rules(NameGuard x, int r, int refuses, int warns, int strict) {
        Check.due("refuses, of register " + r, x.count(10 + r), refuses);
        Check.due("warns, of register " + r, x.count(20 + r), warns);
        Check.due("strict, of register " + r, x.count(30 + r), strict);
    }

    private static void registersAtFirst() {
        Doc.termsII("it REFUSES names as far as one of it or less (4 at first), and WARNS as far as the other or less "
            + "(8 at first); it may be STRICT (not at first)");
        NameGuard x = new NameGuard();
        for (int r = 0; r < 4; r++) {
            rules(x, r, 4, 8, 0);
        }
    }

    private static void ruleOutside() {
        Doc.promise(12, "A REGISTER's bounds, 0 .. 200 each");
        NameGuard x = new NameGuard();
        for (int r : Wrong.REGISTERS) {
            Check.due("register " + r, x.rule(r, 1, 2, true), RANGE);
        }
        for (int bound : Wrong.BOUNDS) {
            Check.due("refuses " + bound, x.rule(3, bound, 200, true), RANGE);
            Check.due("warns " + bound, x.rule(3, 0, bound, true), RANGE);
            Check.due("both " + bound, x.rule(3, bound, bound, true), RANGE);
        }
        for (int r = 0; r < 4; r++) {
            rules(x, r, 4, 8, 0);
        }
        Check.due("the least", x.rule(0, 0, 0, false), 1);
        Check.due("the most", x.rule(3, 200, 200, true), 1);
        Check.due("from end to end", x.rule(1, 0, 200, true), 1);
        rules(x, 0, 0, 0, 0);
        rules(x, 1, 0, 200, 1);
        rules(x, 2, 4, 8, 0);
        rules(x, 3, 200, 200, 1);
        Check.due("strict no more", x.rule(3, 200, 200, false), 1);
        rules(x, 3, 200, 200, 0);
    }

    private static void ruleSecondBelowFirst() {
        Doc.promise(12, "the second not below the first");
        NameGuard x = new NameGuard();
        Check.due("one below", x.rule(2, 9, 8, true), RANGE);
        Check.due("far below", x.rule(2, 200, 0, true), RANGE);
        Check.due("below by the least", x.rule(2, 1, 0, true), RANGE);
        rules(x, 2, 4, 8, 0);
        Check.due("the same", x.rule(2, 9, 9, false), 1);
        Check.due("one above", x.rule(2, 9, 10, false), 1);
        Check.due("one below then", x.rule(2, 10, 9, true), RANGE);
        rules(x, 2, 9, 10, 0);
    }

    private static void askOutside() {
        Doc.promise(13, "RANGE: no such REGISTER, OWNER");
        NameGuard none = new NameGuard();
        NameGuard x = new NameGuard();
        Check.tell(x, "a");
        for (int r : Wrong.REGISTERS) {
            Check.due("register " + r, x.ask(r, 0), RANGE);
            Check.due("register " + r + ", no name", none.ask(r, 0), RANGE);
        }
        for (int owner : Wrong.OWNERS) {
            Check.due("owner " + owner, x.ask(0, owner), RANGE);
            Check.due("owner " + owner + ", no name", none.ask(0, owner), RANGE);
        }
        Check.due("the first of both", x.ask(0, 0), 0);
        Check.due("the last of both", x.ask(3, 31), 0);
    }

    private static void askOfNoName() {
        Doc.promise(13, "NONE: there is no NAME");
        NameGuard x = new NameGuard();
        Check.due("none at first", x.ask(0, 0), NONE);
        Check.tell(x, "a a");
        Check.due("none with a fault", x.ask(3, 31), NONE);
        Check.lay(x, "a");
        Check.due("none on the tape", x.ask(0, 0), NONE);
        x.name();
        Check.due("one", x.ask(0, 0), 0);
    }

    private static void askOfNoneSeen() {
        Doc.promise(13, "or none of it is SEEN");
        NameGuard x = new NameGuard();
        Check.enter(x, "aa", 0, 0);
        Check.tell(x, "a");
        x.seen('a', 1);
        Check.due("hidden", x.ask(0, 1), NONE);
        Check.due("hidden, not let in", x.enter(0, 1), NONE);
        Check.due("wrong all the same", x.ask(4, 1), RANGE);
        x.seen('a', 2);
        Check.due("turns", x.ask(0, 1), NONE);
        x.seen('a', 0);
        Check.due("seen again", x.ask(0, 1), 0);
    }

    /** An entry of eleven '.' of owner 0, and signs taken for '.' at costs: 'A' for nothing, 'B' for 1, to 20. */
    private static NameGuard deskOfCosts() {
        NameGuard x = new NameGuard();
        Check.enter(x, ".".repeat(11), 0, 0);
        for (int cost = 0; cost <= 20; cost++) {
            x.confuse('.', 'A' + cost, cost);
        }
        return x;
    }

    /** What owner 1 is answered for a name that is so far from the entry. */
    private static int asked(NameGuard x, int cost) {
        StringBuilder text = new StringBuilder();
        int left = cost;
        for (int i = 0; i < 11; i++) {
            int part = Math.min(20, left);
            text.append((char) ('A' + part));
            left -= part;
        }
        Check.tell(x, text.toString());
        Check.due("far", x.far(0), cost);
        return x.ask(0, 1);
    }

    private static void boundsAtFirst() {
        Doc.termsII("2 REFUSED: an ENTRY of another OWNER is not farther than the first bound");
        NameGuard x = deskOfCosts();
        for (int cost = 0; cost <= 12; cost++) {
            Check.due("as far as " + cost, asked(x, cost), cost <= 4 ? 2 : cost <= 8 ? 1 : 0);
        }
    }

    private static void boundsAtTheirEnds() {
        Doc.termsII("1 WARNED: one of another OWNER is not farther than the second bound; else 0 FREE.");
        int[][] bounds = {{0, 0}, {0, 1}, {1, 1}, {0, 200}, {199, 200}, {200, 200}, {7, 30}};
        int[] costs = {0, 1, 2, 6, 7, 8, 29, 30, 31, 198, 199, 200, 201, 220};
        for (int[] b : bounds) {
            NameGuard x = deskOfCosts();
            x.rule(0, b[0], b[1], false);
            for (int cost : costs) {
                int want = cost <= b[0] ? 2 : cost <= b[1] ? 1 : 0;
                Check.due("as far as " + cost + " with " + b[0] + ", " + b[1], asked(x, cost), want);
            }
        }
    }

    /** Whole pieces of two signs, at the bounds and one beyond: ahead of what costs, behind it, and on either side. */
    private static void boundsOfLongerPieces() {
        Doc.termsI("A PIECE is one SIGN or two");
        String[][] pairs = {{"m", "rn"}, {"rn", "m"}, {"xm", "xrn"}, {"mx", "rnx"}, {"cd", "rn"}, {"xcdx", "xrnx"}};
        for (String[] pair : pairs) {
            for (int cost = 0; cost <= 10; cost++) {
                NameGuard x = new NameGuard();
                Check.enter(x, pair[0], 0, 0);
                Check.confuse(x, "m", "rn", cost);
                Check.confuse(x, "cd", "rn", cost);
                Check.tell(x, pair[1]);
                longerPiece(x, pair[0] + " and " + pair[1] + " at " + cost, cost);
                NameGuard y = new NameGuard();
                Check.enter(y, pair[0] + "o", 0, 0);
                Check.confuse(y, "m", "rn", 0);
                Check.confuse(y, "cd", "rn", 0);
                Check.confuse(y, "o", "0", cost);
                Check.tell(y, pair[1] + "0");
                longerPiece(y, pair[0] + "o and " + pair[1] + "0 at " + cost, cost);
            }
        }
    }

    private static void longerPiece(NameGuard x, String what, int cost) {
        Check.due(what, x.ask(0, 1), cost <= 4 ? 2 : cost <= 8 ? 1 : 0);
        Check.due("far, " + what, x.far(0), cost);
        Check.due("near, " + what, x.near(0, cost), 1);
        Check.due("not near, " + what, cost == 0 ? 0 : x.near(0, cost - 1), 0);
        x.rule(0, 0, 200, false);
        Check.due("let in, " + what, x.enter(0, 1), cost == 0 ? -12 : 1);
        if (cost > 0) {
            x.rule(0, cost, cost, false);
            Check.due("alike, " + what, x.likes(0), 1);
            x.rule(0, cost - 1, cost, false);
            Check.due("not alike, " + what, x.likes(0), 0);
        }
    }

    /** The order in which entries came has no say: one that refuses ahead of, between or behind those that warn. */
    private static void nearestOfSeveral() {
        Doc.termsII("2 REFUSED: an ENTRY of another OWNER is not farther than the first bound");
        for (String order : new String[] {"Ewm", "Emw", "wEm", "mEw", "wmE", "mwE"}) {
            NameGuard x = new NameGuard();
            for (int i = 0; i < 3; i++) {
                Check.enter(x, "" + order.charAt(i), 0, i);
            }
            x.confuse('3', 'E', 4);
            x.confuse('3', 'w', 5);
            x.confuse('3', 'm', 9);
            Check.tell(x, "3");
            Check.due("refused by one of " + order, x.ask(0, 9), 2);
            Check.due("warned by one of " + order, x.ask(0, order.indexOf('E')), 1);
            x.strike(order.indexOf('E'));
            Check.due("warned without it, " + order, x.ask(0, 9), 1);
            x.strike(order.indexOf('w'));
            Check.due("free without both, " + order, x.ask(0, 9), 0);
        }
    }

    private static void strictOnes() {
        Doc.termsII("or it is STRICT and THE NAME is MIXED");
        NameGuard x = new NameGuard();
        x.script('b', 2);
        x.rule(1, 4, 8, true);
        Check.tell(x, "ab");
        Check.due("mixed, not strict", x.ask(0, 0), 0);
        Check.due("mixed, strict", x.ask(1, 0), 2);
        Check.due("not let in", x.enter(1, 0), -12);
        Check.tell(x, "aa");
        Check.due("one script, strict", x.ask(1, 0), 0);
        Check.tell(x, "a1");
        Check.due("one script and nought, strict", x.ask(1, 0), 0);
        Check.tell(x, "ab");
        x.allow(6);
        Check.due("they may stand together", x.ask(1, 0), 0);
        Check.due("let in", x.enter(1, 0), 0);
        x.script('b', 3);
        Check.due("held, strict and mixed", x.ask(1, 5), 3);
        x.rule(1, 4, 8, false);
        x.strike(0);
        Check.due("strict no more", x.ask(1, 5), 0);
    }

    private static void heldOfWhomever() {
        Doc.termsII("3 HELD: an ENTRY of it (of whomever) is SEEN the same, sign by sign");
        NameGuard x = new NameGuard();
        Check.enter(x, "ab", 0, 7);
        x.rule(0, 0, 0, true);
        for (int owner : new int[] {0, 6, 7, 8, 31}) {
            Check.due("by owner " + owner, x.ask(0, owner), 3);
            Check.due("not let in for owner " + owner, x.enter(0, owner), -13);
        }
        Check.due("in another register", x.ask(1, 7), 0);
        x.strike(0);
        Check.due("struck", x.ask(0, 7), 0);
    }

    private static void heldSignBySign() {
        Doc.termsII("is SEEN the same, sign by sign");
        NameGuard x = new NameGuard();
        x.seen('-', 1);
        x.seen('<', 2);
        Check.enter(x, "abc", 0, 0);
        String[] same = {"abc", "-abc-", "a-b-c", "<cba", "a<cb<", "abc<"};
        for (String text : same) {
            Check.tell(x, text);
            Check.due(text, x.ask(0, 1), 3);
        }
        String[] unlike = {"ab", "abcd", "zabc", "abd", "xbc", "axc", "cba", "ABC", "bc", "<abc"};
        for (String text : unlike) {
            Check.tell(x, text);
            Check.due(text, x.ask(0, 1), 0);
        }
        Check.confuse(x, "c", "d", 0);
        Check.tell(x, "abd");
        Check.due("at no cost is not the same", x.ask(0, 1), 2);
        Check.due("nor for its owner", x.ask(0, 0), 0);
    }

    private static void refusedByOthersAlone() {
        Doc.termsII("an ENTRY of another OWNER is not farther than the first bound");
        NameGuard x = new NameGuard();
        x.confuse('a', 'b', 4);
        x.confuse('a', 'c', 8);
        Check.enter(x, "a", 0, 5);
        Check.tell(x, "b");
        Check.due("its own owner", x.ask(0, 5), 0);
        Check.due("another one", x.ask(0, 4), 2);
        Check.tell(x, "c");
        Check.due("its own owner, farther", x.ask(0, 5), 0);
        Check.due("another one, farther", x.ask(0, 6), 1);
        Check.due("warned, let in", x.enter(0, 6), 1);
        Check.tell(x, "b");
        Check.due("farther than both bounds from the second", x.far(1), 12);
        Check.due("the owner of the first", x.ask(0, 5), 0);
        Check.due("the owner of the second", x.ask(0, 6), 2);
        x.strike(0);
        Check.due("the first is struck", x.ask(0, 6), 0);
    }

    private static void anotherRegisterHasNoSay() {
        Doc.termsII("ASKED for a REGISTER by an OWNER");
        NameGuard x = new NameGuard();
        x.confuse('a', 'b', 1);
        for (int r = 0; r < 4; r++) {
            Check.due("let into " + r, Check.enter(x, "a", r, r), r);
        }
        x.strike(2);
        Check.tell(x, "b");
        for (int r = 0; r < 4; r++) {
            Check.due("by the owner there, " + r, x.ask(r, r), 0);
            Check.due("by another one, " + r, x.ask(r, 9), r == 2 ? 0 : 2);
        }
    }

    private static void enterNotLetIn() {
        Doc.promise(14, "let in if it is FREE or WARNED: its ENTRY; -10 and less: less 10 less the answer");
        NameGuard x = new NameGuard();
        x.confuse('a', 'b', 4);
        x.confuse('a', 'c', 5);
        Check.due("free", Check.enter(x, "a", 0, 0), 0);
        Check.due("held", x.enter(0, 0), -13);
        Check.due("refused", Check.enter(x, "b", 0, 1), -12);
        Check.due("one has come in", x.count(2), 1);
        Check.due("warned", Check.enter(x, "c", 0, 1), 1);
        Check.due("two have come in", x.count(2), 2);
        Check.due("both stand", x.count(3), 2);
    }

    private static void enterOutside() {
        Doc.promise(14, "RANGE, NONE as ask()");
        NameGuard x = new NameGuard();
        Check.due("no name", x.enter(0, 0), NONE);
        Check.due("no name, wrong", x.enter(0, 32), RANGE);
        Check.tell(x, "a");
        for (int r : Wrong.REGISTERS) {
            Check.due("register " + r, x.enter(r, 0), RANGE);
        }
        for (int owner : Wrong.OWNERS) {
            Check.due("owner " + owner, x.enter(0, owner), RANGE);
        }
        x.seen('a', 1);
        Check.due("none is seen", x.enter(0, 0), NONE);
        Check.due("none is seen, wrong", x.enter(-1, 0), RANGE);
        Check.due("none has come in", x.count(2), 0);
        x.seen('a', 0);
        Check.due("the last register, the last owner", x.enter(3, 31), 0);
        Check.due("its register", x.entry(0, 0), 3);
        Check.due("its owner", x.entry(0, 1), 31);
    }

    private static void enterNumbers() {
        Doc.termsII("ENTRIES, at most 200 of all REGISTERS, numbered from 0 as they come");
        NameGuard x = new NameGuard();
        Check.tell(x, "a");
        int[] order = {3, 1, 0, 2};
        for (int i = 0; i < 4; i++) {
            Check.due("into " + order[i], x.enter(order[i], i), i);
            Check.due("its register", x.entry(i, 0), order[i]);
            Check.due("its owner", x.entry(i, 1), i);
        }
        x.strike(3);
        Check.due("no number comes again", x.enter(2, 9), 4);
        Check.due("the struck one is as it was", x.entry(3, 1), 3);
    }

    /** Each text is one feed, so that fifty of them and four entries of each take three hundred calls. */
    private static NameGuard fullOfEntries() {
        NameGuard x = new NameGuard();
        for (int i = 0; i < 50; i++) {
            x.feed(0x61616161, 0x61616161, 0x61616161, 0x61616161, 0x61616121 + i);
            x.name();
            for (int r = 0; r < 4; r++) {
                Check.due("entry " + (4 * i + r), x.enter(r, i % 32), 4 * i + r);
            }
        }
        return x;
    }

    private static void enterFull() {
        Doc.promise(14, "RANGE, NONE as ask(); FULL.");
        NameGuard x = fullOfEntries();
        Check.due("all", x.count(2), 200);
        Check.due("held is told ahead of full", x.enter(3, 31), -13);
        Check.tell(x, "b");
        Check.due("the 201st", x.enter(0, 0), FULL);
        Check.due("of any register", x.enter(3, 31), FULL);
        Check.due("asked for, it is free", x.ask(0, 0), 0);
        Check.due("wrong when full", x.enter(0, 32), RANGE);
        Check.due("two hundred still", x.count(2), 200);
        Check.due("no 201st entry", x.entry(200, 0), NONE);
        Check.due("the last one", x.entry(199, 39), 0x21 + 49);
        x.rule(0, 4, 8, true);
        x.script('c', 2);
        Check.tell(x, "bc");
        Check.due("refused is told ahead of full", x.enter(0, 0), -12);
        Check.due("warned or free is full", x.enter(1, 0), FULL);
        Check.due("strike the last", x.strike(199), 1);
        Check.due("strike the first", x.strike(0), 1);
        Check.due("struck ones are entries, too", x.enter(1, 0), FULL);
        x.seen('b', 1);
        x.seen('c', 1);
        Check.due("none is seen, when full", x.enter(1, 0), NONE);
        Check.due("those that stand", x.count(3), 198);
    }

    private static void strikeOutside() {
        Doc.promise(15, "RANGE: there is none such");
        NameGuard x = new NameGuard();
        Check.due("none at first", x.strike(0), RANGE);
        Check.tell(x, "a");
        x.enter(0, 0);
        x.enter(1, 0);
        for (int e : new int[] {LEAST, LEAST + 1, -256, -1, 2, 3, 199, 200, 256, 257, 65536, MOST}) {
            Check.due("strike(" + e + ")", x.strike(e), RANGE);
        }
        Check.due("both stand", x.count(3), 2);
        Check.due("the last one", x.strike(1), 1);
        Check.due("the first one", x.strike(0), 1);
        Check.due("none stands", x.count(3), 0);
        NameGuard full = fullOfEntries();
        Check.due("the 201st", full.strike(200), RANGE);
        Check.due("the 200th", full.strike(199), 1);
    }

    private static void strikeAlready() {
        Doc.promise(15, "or it is struck already");
        NameGuard x = new NameGuard();
        Check.tell(x, "a");
        x.enter(0, 0);
        x.enter(1, 0);
        Check.due("once", x.strike(0), 1);
        Check.due("twice", x.strike(0), RANGE);
        Check.due("it is struck still", x.entry(0, 4), 0);
        Check.due("the other one stands", x.entry(1, 4), 1);
        Check.due("in again, as another one", x.enter(0, 0), 2);
        Check.due("the struck one stays struck", x.strike(0), RANGE);
        Check.due("the new one stands", x.entry(2, 4), 1);
        Check.due("two stand", x.count(3), 2);
    }

    private static void entryOutside() {
        Doc.promise(16, "NONE when there is none such.");
        NameGuard x = new NameGuard();
        Check.due("none at first", x.entry(0, 0), NONE);
        Check.enter(x, "abc", 2, 9);
        for (int e : new int[] {LEAST, LEAST + 1, -1, 1, 2, 199, 200, 256, 65536, MOST}) {
            for (int what : new int[] {0, 4, 20}) {
                Check.due("entry(" + e + ", " + what + ")", x.entry(e, what), NONE);
            }
        }
        int[] outside = {LEAST, LEAST + 20, -20, -1, 5, 6, 10, 19, 23, 24, 59, 60, 61, 256, 276, 65556, MOST - 20, MOST};
        for (int round = 0; round < 2; round++) {
            for (int what : outside) {
                Check.due("entry(0, " + what + ")", x.entry(0, what), NONE);
            }
            Check.due("its last sign", x.entry(0, 22), 'c');
            Check.due("its register", x.entry(0, 0), 2);
            Check.due("whether it stands", x.entry(0, 4), 1 - round);
            x.strike(0);
        }
    }

    private static void entryOfLongTexts() {
        Doc.promise(16, "20 + i: SIGN i as it was told");
        NameGuard x = new NameGuard();
        x.seen('-', 1);
        x.seen('<', 2);
        String text = "<" + "abcdefghijkl".repeat(2) + "-".repeat(15);
        Check.due("let in", Check.enter(x, text, 0, 0), 0);
        Check.due("its signs", x.entry(0, 2), 40);
        Check.due("its seen ones", x.entry(0, 3), 24);
        for (int i = 0; i < 40; i++) {
            Check.due("sign " + i, x.entry(0, 20 + i), text.charAt(i));
        }
        Check.due("none behind", x.entry(0, 60), NONE);
        Check.due("the least that can be", Check.enter(x, "z", 0, 0), 1);
        Check.due("its one sign", x.entry(1, 20), 'z');
        Check.due("none behind it", x.entry(1, 21), NONE);
    }

    private static void entryFollowsTheTables() {
        Doc.termsII("a text (as it was told; what is SEEN of it follows the tables as they are), till it is struck");
        NameGuard x = new NameGuard();
        x.seen('-', 1);
        Check.enter(x, "a".repeat(24) + "-".repeat(16), 0, 0);
        Check.tell(x, "z");
        x.seen('-', 0);
        Check.due("all are seen", x.entry(0, 3), 40);
        x.seen('a', 2);
        Check.due("some are turns", x.entry(0, 3), 16);
        x.seen('-', 1);
        Check.due("none is seen", x.entry(0, 3), 0);
        Check.due("as many signs as were told", x.entry(0, 2), 40);
        Check.due("as they were told", x.entry(0, 20), 'a');
        Check.due("to the last", x.entry(0, 59), '-');
        Check.due("it stands", x.entry(0, 4), 1);
        Check.due("none behind", x.entry(0, 60), NONE);
    }

    private static void whatIsInStays() {
        Doc.termsII("When tables change what is in stays.");
        NameGuard x = new NameGuard();
        Check.enter(x, "ab", 0, 0);
        Check.enter(x, "ac", 0, 1);
        x.confuse('b', 'c', 0);
        x.script('b', 2);
        x.rule(0, 200, 200, true);
        x.seen('a', 1);
        x.seen('b', 1);
        x.seen('c', 1);
        Check.due("both stand", x.count(3), 2);
        Check.due("the first", x.entry(0, 4), 1);
        Check.due("the second", x.entry(1, 4), 1);
        Check.due("its owner", x.entry(1, 1), 1);
        x.seen('a', 0);
        Check.tell(x, "a");
        Check.due("both hold it now", x.ask(0, 2), 3);
        x.strike(0);
        Check.due("the other one still", x.ask(0, 2), 3);
    }

    private static void theNameIsTheLatest() {
        Doc.termsII("THE NAME is the text that was told latest (none at first).");
        NameGuard x = new NameGuard();
        Check.due("none at first", x.about(0), NONE);
        Check.tell(x, "abc");
        Check.tell(x, "de");
        Check.due("its signs", x.about(0), 2);
        Check.dueText("the latest", Check.seenName(x), "de");
        x.enter(0, 0);
        Check.dueText("it stays when it is let in", Check.seenName(x), "de");
        x.strike(0);
        Check.dueText("and when it is struck", Check.seenName(x), "de");
        Check.lay(x, "fg");
        Check.dueText("and while another one is on the tape", Check.seenName(x), "de");
        x.name();
        Check.dueText("till it is told", Check.seenName(x), "fg");
        Check.due("what was let in is as it was", x.entry(0, 20), 'd');
    }
}
