/** The boundary cases of promises 1 to 8, a test for each sentence that names one. */
public final class BoundsOfTablesTest {
    private static final int NONE = NameGuard.NONE;
    private static final int RANGE = NameGuard.RANGE;
    private static final int FULL = NameGuard.FULL;
    private static final int LEAST = Integer.MIN_VALUE;
    private static final int MOST = Integer.MAX_VALUE;

    private BoundsOfTablesTest() {
    }

    public static void main(String[] args) {
        lastCallOfAll();
        nothingInANewObject();
        feedBeyond200();
        feedOfEachByte();
        endBeyondTheTape();
        endBelowZero();
        endOfAllAndOfNothing();
        signsOfScript();
        scriptsAtFirst();
        scriptsOutside();
        signsOfSeen();
        seenOutside();
        piecesOfConfuse();
        confuseTheSame();
        costsOfConfuse();
        confuseNoneAnyMore();
        confuseEitherWayRound();
        confuseFull();
        piecesOfChain();
        chainOfTheSame();
        chainOfNone();
        chainOfAllSteps();
        setsOutside();
        setThereAlready();
        setsFull();
        Doc.dueAll(1, 8);
        Check.close("BoundsOfTablesTest");
    }

    private static void lastCallOfAll() {
        Doc.preface("An object is used for at most 512 calls after it has been made");
        NameGuard x = new NameGuard();
        for (int call = 1; call < 512; call++) {
            Check.due("call " + call, x.confuse('a', 'b', call % 21), call == 1 ? NONE : (call - 1) % 21);
        }
        Check.due("call 512", x.chain('b', 'a'), 511 % 21);
        NameGuard y = new NameGuard();
        for (int call = 1; call < 512; call += 2) {
            y.feed(0x61616161, 0x61616161, 0x61616161, 0x61616161, 0x61616161);
            Check.due("call " + (call + 1), y.name(), 20);
        }
    }

    private static void nothingInANewObject() {
        Doc.promise(1, "No CONFUSIONS, SETS, ENTRIES, no NAME.");
        NameGuard used = new NameGuard();
        used.script('b', 2);
        used.seen('-', 1);
        used.confuse('a', 'b', 1);
        used.allow(6);
        used.rule(0, 1, 2, true);
        Check.enter(used, "ab", 0, 0);
        used.near(0, 200);
        used.ways(0);
        used.feed(0, 0, 0, 0, 0);
        NameGuard x = new NameGuard();
        Check.due("confusions", x.count(0), 0);
        Check.due("pieces", x.count(5), 0);
        Check.due("chain", x.chain('a', 'b'), NONE);
        Check.due("sets", x.count(1), 0);
        Check.due("entries", x.count(2), 0);
        Check.due("entries that stand", x.count(3), 0);
        Check.due("entry", x.entry(0, 0), NONE);
        Check.due("name", x.about(0), NONE);
        Check.due("name asked for", x.ask(0, 0), NONE);
        Check.due("tape", x.count(4), 0);
        Check.due("nearest", x.nearest(0, 0), NONE);
        Check.due("way", x.way(0, 0), NONE);
        Check.due("like", x.like(0, 0), NONE);
        Check.due("script", x.script('b', 1), 1);
        Check.due("seen", x.seen('-', 0), 0);
        Check.due("bound", x.count(10), 4);
    }

    private static void feedBeyond200() {
        Doc.promise(2, "FULL when there would be more than 200.");
        for (int room = 0; room <= 20; room++) {
            NameGuard x = new NameGuard();
            x.feed(0x41424344, 0x45464748, 0x494A4B4C, 0x4D4E4F50, 0x51525354);
            for (int n = 40; n <= 200; n += 20) {
                Check.due("feed to " + n, x.feed(0x61616161, 0, 0, 0, 0), n);
            }
            Check.due("end", x.end(200 - room), 200 - room);
            Check.due("feed with room for " + room, x.feed(0, 0, 0, 0, 0), room == 20 ? 200 : FULL);
            Check.due("bytes then", x.count(4), room == 20 ? 200 : 200 - room);
            x.end(24);
            Check.due("name of the first bytes", x.name(), 24);
            Check.dueText("what was there stays", Check.seenName(x), "ABCDEFGHIJKLMNOPQRSTaaaa");
            Check.due("room again", x.feed(0, 0, 0, 0, 0), 20);
        }
    }

    /** A byte that is no sign is told with its place: each of the twenty, behind a feed and with none ahead of it. */
    private static void feedOfEachByte() {
        Doc.promise(2, "Twenty bytes come behind THE TAPE, the highest of each int first: how many it has");
        int[] noSigns = {0, 32, 127, 128, 160, 255};
        for (int at = 0; at < 20; at++) {
            int[] w = {0x21217E7E, 0x7E7E2121, 0x21217E7E, 0x217E217E, 0x7E217E21};
            int shift = 24 - 8 * (at % 4);
            w[at / 4] = w[at / 4] & ~(255 << shift) | noSigns[at % noSigns.length] << shift;
            NameGuard x = new NameGuard();
            Check.due("bytes", x.feed(w[0], w[1], w[2], w[3], w[4]), 20);
            Check.due("name", x.name(), NONE);
            Check.due("place of byte " + at, x.fault(1), at);
            x.feed(0x61616161, 0x61616161, 0x61616161, 0x61616161, 0x61616161);
            Check.due("bytes of two", x.feed(w[0], w[1], w[2], w[3], w[4]), 40);
            Check.due("name of two", x.name(), NONE);
            Check.due("place of byte " + at + " behind others", x.fault(1), 20 + at);
        }
    }

    private static void endBeyondTheTape() {
        Doc.promise(3, "NONE when it has not so many");
        NameGuard x = new NameGuard();
        for (int n : new int[] {1, 20, 200, 201, 256, MOST}) {
            Check.due("end(" + n + ") of nothing", x.end(n), NONE);
        }
        x.feed(0x61626364, 0, 0, 0, 0);
        x.end(4);
        for (int n : new int[] {5, 20, 200, 201, 260, MOST}) {
            Check.due("end(" + n + ") of 4", x.end(n), NONE);
            Check.due("bytes", x.count(4), 4);
        }
        Check.due("name", x.name(), 4);
        Check.dueText("as it was", Check.seenName(x), "abcd");
    }

    private static void endBelowZero() {
        Doc.promise(3, "or n is below 0");
        NameGuard x = new NameGuard();
        x.feed(0x61616161, 0x61616161, 0x61616161, 0x61616161, 0x61616161);
        for (int n : new int[] {-1, -4, -20, -256, LEAST, LEAST + 4}) {
            Check.due("end(" + n + ")", x.end(n), NONE);
            Check.due("bytes", x.count(4), 20);
        }
        Check.due("name", x.name(), 20);
    }

    private static void endOfAllAndOfNothing() {
        Doc.promise(3, "THE TAPE has its first n bytes alone: n");
        NameGuard x = new NameGuard();
        Check.due("nothing of nothing", x.end(0), 0);
        x.feed(0x61626364, 0x65666768, 0, 0, 0);
        Check.due("all", x.end(20), 20);
        Check.due("some", x.end(3), 3);
        Check.due("the rest is gone", x.end(4), NONE);
        Check.due("more behind it", x.feed(0x78797A78, 0, 0, 0, 0), 23);
        x.end(6);
        x.name();
        Check.dueText("the first ones and those behind", Check.seenName(x), "abcxyz");
        x.feed(0, 0, 0, 0, 0);
        Check.due("nothing", x.end(0), 0);
        Check.due("bytes", x.count(4), 0);
    }

    private static void signsOfScript() {
        Doc.termsI("SIGNS are the bytes 33 .. 126.");
        NameGuard x = new NameGuard();
        for (int sign : Wrong.SIGNS) {
            Check.due("script of " + sign, x.script(sign, 1), RANGE);
        }
        Check.due("the lowest", x.script(33, 5), 0);
        Check.due("the highest", x.script(126, 6), 0);
        Check.due("the lowest has it", x.script(33, 0), 5);
        Check.due("the highest has it", x.script(126, 0), 6);
    }

    private static void scriptsAtFirst() {
        Doc.termsI("Each has a script 0 .. 7 (at first: letters 1, all else 0) and is SEEN (all at first)");
        NameGuard x = new NameGuard();
        for (int sign = 33; sign <= 126; sign++) {
            boolean letter = sign >= 65 && sign <= 90 || sign >= 97 && sign <= 122;
            Check.due("script of " + sign, x.script(sign, letter ? 1 : 0), letter ? 1 : 0);
            Check.due("seen of " + sign, x.seen(sign, 0), 0);
        }
    }

    private static void scriptsOutside() {
        Doc.promise(4, "A SIGN has a script 0 .. 7: which it had; RANGE.");
        NameGuard x = new NameGuard();
        Check.tell(x, "a");
        for (int script : new int[] {-1, -8, 8, 9, 15, 256, 257, LEAST, LEAST + 1, MOST}) {
            Check.due("script " + script, x.script('a', script), RANGE);
            Check.due("its script stays", x.about(2), 2);
        }
        Check.due("the highest", x.script('a', 7), 1);
        Check.due("bit 7", x.about(2), 128);
        Check.due("the lowest", x.script('a', 0), 7);
        Check.due("no bit", x.about(2), 0);
        Check.due("the same again", x.script('a', 0), 0);
    }

    private static void signsOfSeen() {
        Doc.termsI("SIGNS are the bytes 33 .. 126.");
        NameGuard x = new NameGuard();
        for (int sign : Wrong.SIGNS) {
            Check.due("seen of " + sign, x.seen(sign, 1), RANGE);
        }
        Check.due("the lowest", x.seen(33, 1), 0);
        Check.due("the highest", x.seen(126, 2), 0);
        Check.due("the lowest is hidden", x.seen(33, 0), 1);
        Check.due("the highest is a turn", x.seen(126, 0), 2);
    }

    private static void seenOutside() {
        Doc.promise(5, "A SIGN is 0 SEEN, 1 HIDDEN, 2 a TURN: what it was; RANGE.");
        NameGuard x = new NameGuard();
        Check.tell(x, "ab");
        for (int how : new int[] {-1, -2, 3, 4, 256, 257, 258, LEAST, LEAST + 1, MOST}) {
            Check.due("how " + how, x.seen('a', how), RANGE);
            Check.due("it is seen all the same", x.about(1), 2);
        }
        Check.due("hidden", x.seen('a', 1), 0);
        Check.due("hidden again", x.seen('a', 1), 1);
        Check.due("neither", x.seen('a', 3), RANGE);
        Check.due("hidden still", x.about(4), 1);
        Check.due("a turn", x.seen('a', 2), 1);
        Check.due("seen", x.seen('a', 0), 2);
    }

    private static void piecesOfConfuse() {
        Doc.promise(6, "RANGE: no PIECES (each of SIGNS)");
        NameGuard x = new NameGuard();
        for (int piece : Wrong.PIECES) {
            Check.due("confuse(" + piece + ", b)", x.confuse(piece, 'b', 1), RANGE);
            Check.due("confuse(bb, " + piece + ")", x.confuse(Check.piece("bb"), piece, 1), RANGE);
            Check.due("none any more of " + piece, x.confuse(piece, 'b', NONE), RANGE);
        }
        Check.due("nothing came of it", x.count(0), 0);
        int[] edges = {33, 126, 256 * 33 + 33, 256 * 33 + 126, 256 * 126 + 33, 256 * 126 + 126};
        for (int piece : edges) {
            Check.due("confuse(" + piece + ", b)", x.confuse(piece, 'b', 1), NONE);
            Check.due("confuse(bb, " + piece + ")", x.confuse(Check.piece("bb"), piece, 1), NONE);
        }
        Check.due("all came in", x.count(0), 2 * edges.length);
        Check.due("their pieces", x.count(5), 2 + edges.length);
    }

    private static void confuseTheSame() {
        Doc.promise(6, "the same, no such cost");
        NameGuard x = new NameGuard();
        for (int piece : new int[] {33, 'a', 126, Check.piece("aa"), Check.piece("ab")}) {
            Check.due("the same, " + piece, x.confuse(piece, piece, 0), RANGE);
            Check.due("none any more of the same, " + piece, x.confuse(piece, piece, NONE), RANGE);
        }
        Check.due("none of them", x.count(0), 0);
        Check.due("one sign and the same one twice", x.confuse('a', Check.piece("aa"), 1), NONE);
        Check.due("two signs and the two turned", x.confuse(Check.piece("ab"), Check.piece("ba"), 1), NONE);
    }

    private static void costsOfConfuse() {
        Doc.termsI("A CONFUSION: two unlike PIECES and a cost 0 .. 20");
        NameGuard x = new NameGuard();
        for (int cost : Wrong.COSTS) {
            Check.due("cost " + cost + " of none", x.confuse('a', 'b', cost), RANGE);
        }
        Check.due("none of them", x.count(0), 0);
        Check.due("the least", x.confuse('a', 'b', 0), NONE);
        Check.due("its chain", x.chain('a', 'b'), 0);
        Check.due("the most", x.confuse('a', 'b', 20), 0);
        for (int cost : Wrong.COSTS) {
            Check.due("cost " + cost + " of one", x.confuse('a', 'b', cost), RANGE);
            Check.due("what it costs", x.chain('a', 'b'), 20);
        }
        Check.due("one", x.count(0), 1);
    }

    private static void confuseNoneAnyMore() {
        Doc.promise(6, "(NONE: none any more): what it cost (NONE: there was none)");
        NameGuard x = new NameGuard();
        Check.due("there was none", Check.confuse(x, "a", "b", NONE), NONE);
        Check.due("nor is", x.count(0), 0);
        Check.due("one", Check.confuse(x, "a", "b", 0), NONE);
        Check.due("two", Check.confuse(x, "b", "c", 3), NONE);
        Check.due("three", Check.confuse(x, "c", "dd", 4), NONE);
        Check.due("the first goes", Check.confuse(x, "a", "b", NONE), 0);
        Check.due("no chain then", x.chain('a', 'b'), NONE);
        Check.due("the others stay", x.chain('b', Check.piece("dd")), 7);
        Check.due("pieces", x.count(5), 3);
        Check.due("it is gone", Check.confuse(x, "a", "b", NONE), NONE);
        Check.due("it comes again", Check.confuse(x, "a", "b", 2), NONE);
        Check.due("the last goes", Check.confuse(x, "dd", "c", NONE), 4);
        Check.due("and the next", Check.confuse(x, "c", "b", NONE), 3);
        Check.due("and the one that is left", Check.confuse(x, "b", "a", NONE), 2);
        Check.due("none is left", x.count(0), 0);
        Check.due("nor a piece", x.count(5), 0);
    }

    private static void confuseEitherWayRound() {
        Doc.termsI("at most 60, told either way round");
        NameGuard x = new NameGuard();
        Check.due("one way round", Check.confuse(x, "rn", "m", 5), NONE);
        Check.due("the other", Check.confuse(x, "m", "rn", 6), 5);
        Check.due("it is one", x.count(0), 1);
        Check.due("from one", x.chain(Check.piece("rn"), 'm'), 6);
        Check.due("from the other", x.chain('m', Check.piece("rn")), 6);
        Check.due("none any more, the other way", Check.confuse(x, "rn", "m", NONE), 6);
        Check.due("none either way", Check.confuse(x, "m", "rn", NONE), NONE);
    }

    private static NameGuard fullOfConfusions() {
        NameGuard x = new NameGuard();
        for (int i = 0; i < 60; i++) {
            Check.due("confusion " + i, x.confuse(33 + i, 256 * 'x' + 33 + i, i % 21), NONE);
        }
        Check.due("sixty", x.count(0), 60);
        Check.due("their pieces", x.count(5), 120);
        return x;
    }

    private static void confuseFull() {
        Doc.promise(6, "FULL.");
        NameGuard x = fullOfConfusions();
        Check.due("the 61st", x.confuse('~', '}', 1), FULL);
        Check.due("of pieces that are there", x.confuse(33, 34, 1), FULL);
        Check.due("no chain came", x.chain(33, 34), NONE);
        Check.due("sixty still", x.count(0), 60);
        Check.due("no piece came", x.count(5), 120);
        Check.due("wrong ones are RANGE when full", x.confuse('~', '}', 21), RANGE);
        Check.due("the same, when full", x.confuse('~', '~', 1), RANGE);
        Check.due("no piece, when full", x.confuse('~', 127, 1), RANGE);
        Check.due("none any more of one that is not there", x.confuse('~', '}', NONE), NONE);
        for (int i = 0; i < 60; i++) {
            int cost = x.confuse(256 * 'x' + 33 + i, 33 + i, 20);
            Check.due("one that is there, " + i, cost, i % 21);
        }
        Check.due("sixty still", x.count(0), 60);
        Check.due("one goes", x.confuse(33, 256 * 'x' + 33, NONE), 20);
        Check.due("there is room for one", x.confuse('~', '}', 1), NONE);
        Check.due("not for two", x.confuse('~', '|', 1), FULL);
        Check.due("its chain", x.chain('}', '~'), 1);
    }

    private static void piecesOfChain() {
        Doc.promise(7, "NONE: there is none; RANGE.");
        NameGuard x = new NameGuard();
        Check.confuse(x, "a", "bb", 1);
        for (int piece : Wrong.PIECES) {
            Check.due("chain(" + piece + ", a)", x.chain(piece, 'a'), RANGE);
            Check.due("chain(bb, " + piece + ")", x.chain(Check.piece("bb"), piece), RANGE);
            Check.due("chain of " + piece + " to itself", x.chain(piece, piece), RANGE);
        }
        int[] edges = {33, 126, 256 * 33 + 33, 256 * 33 + 126, 256 * 126 + 33, 256 * 126 + 126};
        for (int piece : edges) {
            Check.due("chain(" + piece + ", a)", x.chain(piece, 'a'), NONE);
            Check.due("chain(bb, " + piece + ")", x.chain(Check.piece("bb"), piece), NONE);
        }
    }

    private static void chainOfTheSame() {
        Doc.termsI("of PIECES that are the same nothing");
        NameGuard x = new NameGuard();
        for (int piece : new int[] {33, 'a', 126, 256 * 33 + 33, Check.piece("ab"), 256 * 126 + 126}) {
            Check.due("in no confusion, " + piece, x.chain(piece, piece), 0);
            x.confuse(piece, 'z', 7);
            Check.due("in one, " + piece, x.chain(piece, piece), 0);
        }
    }

    private static void chainOfNone() {
        Doc.termsI("CONFUSIONS by which one goes on from the other; its cost is their sum");
        NameGuard x = new NameGuard();
        Check.due("no confusions", x.chain('a', 'b'), NONE);
        Check.confuse(x, "a", "b", 0);
        Check.confuse(x, "c", "d", 0);
        Check.due("at no cost", x.chain('a', 'b'), 0);
        Check.due("apart", x.chain('b', 'c'), NONE);
        Check.due("one piece is in none", x.chain('a', 'e'), NONE);
        Check.due("the first is in none", x.chain('e', 'a'), NONE);
        Check.due("both are in none", x.chain('e', 'f'), NONE);
        Check.confuse(x, "b", "c", 20);
        Check.due("joined", x.chain('a', 'd'), 20);
        Check.confuse(x, "a", "d", 20);
        Check.due("as much the other way", x.chain('a', 'd'), 20);
        Check.confuse(x, "a", "d", 19);
        Check.due("less the other way", x.chain('d', 'a'), 19);
        Check.due("less round about", x.chain('b', 'c'), 19);
        Check.confuse(x, "b", "c", NONE);
        Check.confuse(x, "a", "d", NONE);
        Check.due("apart again", x.chain('a', 'd'), NONE);
    }

    private static void chainOfAllSteps() {
        Doc.promise(7, "The least cost of a CHAIN from one PIECE to another");
        NameGuard x = new NameGuard();
        // the order of telling must not matter: far ends first, then from the middle
        for (int i = 0; i < 60; i++) {
            int step = i % 2 == 0 ? i / 2 : 59 - i / 2;
            Check.due("step", x.confuse(33 + step, 34 + step, 20), NONE);
        }
        Check.due("sixty steps", x.chain(33, 93), 1200);
        Check.due("sixty steps back", x.chain(93, 33), 1200);
        Check.due("one step", x.chain(60, 61), 20);
        x.confuse(62, 63, 0);
        Check.due("one of them costs nothing", x.chain(33, 93), 1180);
        x.confuse(62, 63, NONE);
        Check.due("one of them is gone", x.chain(33, 93), NONE);
        Check.due("up to the gap", x.chain(33, 62), 29 * 20);
    }

    private static void setsOutside() {
        Doc.promise(8, "A SET of scripts (bits 1 .. 7) may stand together");
        NameGuard x = new NameGuard();
        int[] wrong = {LEAST, LEAST + 6, -256, -2, -1, 0, 1, 3, 7, 255, 256, 256 + 6, 65536 + 6, (1 << 30) + 6, MOST};
        for (int set : wrong) {
            Check.due("allow(" + set + ")", x.allow(set), RANGE);
            Check.due("sets", x.count(1), 0);
        }
        Check.due("the lowest script alone", x.allow(2), 1);
        Check.due("the highest script alone", x.allow(128), 2);
        Check.due("all", x.allow(254), 3);
    }

    private static void setThereAlready() {
        Doc.promise(8, "how many SETS there are (one that is there already changes nothing)");
        NameGuard x = new NameGuard();
        for (int i = 1; i <= 8; i++) {
            Check.due("set " + i, x.allow(2 * i), i);
            for (int j = 1; j <= i; j++) {
                Check.due("set " + j + " of " + i + " again", x.allow(2 * j), i);
            }
            Check.due("sets", x.count(1), i);
        }
    }

    private static void setsFull() {
        Doc.termsI("(SETS of scripts 1 .. 7, at most 8)");
        NameGuard x = new NameGuard();
        x.script('b', 2);
        Check.tell(x, "ab");
        for (int i = 1; i <= 8; i++) {
            Check.due("set " + i, x.allow(8 + 16 * i), i);
        }
        Check.due("the ninth", x.allow(6), FULL);
        Check.due("sets", x.count(1), 8);
        Check.due("it does not hold", x.about(3), 1);
        Check.due("wrong when full", x.allow(7), RANGE);
        Check.due("no script when full", x.allow(0), RANGE);
        Check.due("there already when full", x.allow(8 + 16), 8);
        NameGuard y = new NameGuard();
        y.script('b', 2);
        Check.tell(y, "ab");
        for (int i = 1; i <= 7; i++) {
            y.allow(8 + 16 * i);
        }
        Check.due("mixed", y.about(3), 1);
        Check.due("the eighth", y.allow(6), 8);
        Check.due("it holds", y.about(3), 0);
    }
}
