/** Promises 1 to 8: a new object, the tape and the tables. */
public final class TablesTest {
    private static final int NONE = NameGuard.NONE;
    private static final int RANGE = NameGuard.RANGE;
    private static final int FULL = NameGuard.FULL;

    private TablesTest() {
    }

    public static void main(String[] args) {
        promise1();
        promise2();
        promise3();
        promise4();
        promise5();
        promise6();
        promise6Full();
        promise7();
        promise8();
        Check.close("TablesTest");
    }

    private static void promise1() {
        NameGuard x = new NameGuard();
        for (int what = 0; what <= 5; what++) {
            Check.due("new count(" + what + ")", x.count(what), 0);
        }
        for (int r = 0; r < 4; r++) {
            Check.due("new refuses", x.count(10 + r), 4);
            Check.due("new warns", x.count(20 + r), 8);
            Check.due("new strict", x.count(30 + r), 0);
        }
        Check.due("new about(0)", x.about(0), NONE);
        Check.due("new about(20)", x.about(20), NONE);
        Check.due("new fault(0)", x.fault(0), 0);
        Check.due("new fault(1)", x.fault(1), NONE);
        Check.due("new ask", x.ask(0, 0), NONE);
        Check.due("new enter", x.enter(0, 0), NONE);
        Check.due("new strike", x.strike(0), RANGE);
        Check.due("new entry", x.entry(0, 0), NONE);
        Check.due("new far", x.far(0), RANGE);
        Check.due("new near", x.near(0, 5), NONE);
        Check.due("new nearest", x.nearest(0, 0), NONE);
        Check.due("new ways", x.ways(0), RANGE);
        Check.due("new way", x.way(0, 0), NONE);
        Check.due("new likes", x.likes(0), 0);
        Check.due("new like", x.like(0, 0), NONE);
    }

    private static void promise2() {
        NameGuard x = new NameGuard();
        Check.due("feed", x.feed(0x61626364, 0x65666768, 0x696A6B6C, 0x6D6E6F70, 0x71727374), 20);
        Check.due("name of a whole feed", x.name(), 20);
        Check.dueText("order of bytes", Check.seenName(x), "abcdefghijklmnopqrst");
        for (int n = 20; n <= 200; n += 20) {
            Check.due("feed to " + n, x.feed(-1, -1, -1, -1, -1), n);
        }
        Check.due("feed beyond 200", x.feed(0, 0, 0, 0, 0), FULL);
        Check.due("count after FULL", x.count(4), 200);
        Check.due("end 181", x.end(181), 181);
        Check.due("feed at 181", x.feed(0, 0, 0, 0, 0), FULL);
        Check.due("end 180", x.end(180), 180);
        Check.due("feed at 180", x.feed(0, 0, 0, 0, 0), 200);
    }

    private static void promise3() {
        NameGuard x = new NameGuard();
        Check.due("end of nothing", x.end(0), 0);
        Check.due("end 1 of nothing", x.end(1), NONE);
        x.feed(0x61626364, 0, 0, 0, 0);
        Check.due("end below 0", x.end(-1), NONE);
        Check.due("end least int", x.end(Integer.MIN_VALUE), NONE);
        Check.due("end beyond", x.end(21), NONE);
        Check.due("tape stays", x.count(4), 20);
        Check.due("end at its length", x.end(20), 20);
        Check.due("end 3", x.end(3), 3);
        Check.due("end 4 then", x.end(4), NONE);
        Check.due("name", x.name(), 3);
        Check.dueText("its first bytes", Check.seenName(x), "abc");
    }

    private static void promise4() {
        NameGuard x = new NameGuard();
        for (int sign = 33; sign <= 126; sign++) {
            boolean letter = sign >= 'a' && sign <= 'z' || sign >= 'A' && sign <= 'Z';
            Check.due("first script of " + sign, x.script(sign, 7), letter ? 1 : 0);
            Check.due("script of " + sign, x.script(sign, 0), 7);
        }
        Check.due("script 8", x.script('a', 8), RANGE);
        Check.due("script -1", x.script('a', -1), RANGE);
        Check.due("sign 32", x.script(32, 1), RANGE);
        Check.due("sign 127", x.script(127, 1), RANGE);
        Check.due("sign -1", x.script(-1, 1), RANGE);
        Check.due("sign 256 + a", x.script(256 + 'a', 1), RANGE);
        Check.due("unchanged", x.script('a', 3), 0);
        Check.tell(x, "a");
        Check.due("scripts as bits", x.about(2), 8);
    }

    private static void promise5() {
        NameGuard x = new NameGuard();
        for (int sign = 33; sign <= 126; sign++) {
            Check.due("first seen of " + sign, x.seen(sign, 1), 0);
            Check.due("seen of " + sign, x.seen(sign, 2), 1);
            Check.due("seen again of " + sign, x.seen(sign, 0), 2);
        }
        Check.due("how 3", x.seen('a', 3), RANGE);
        Check.due("how -1", x.seen('a', -1), RANGE);
        Check.due("sign 32", x.seen(32, 1), RANGE);
        Check.due("sign 127", x.seen(127, 1), RANGE);
        Check.due("sign least", x.seen(Integer.MIN_VALUE, 1), RANGE);
        Check.due("unchanged", x.seen('a', 0), 0);
    }

    private static void promise6() {
        NameGuard x = new NameGuard();
        Check.due("first", Check.confuse(x, "rn", "m", 3), NONE);
        Check.due("other way round", Check.confuse(x, "m", "rn", 5), 3);
        Check.due("cost 0", Check.confuse(x, "rn", "m", 0), 5);
        Check.due("cost 20", Check.confuse(x, "rn", "m", 20), 0);
        Check.due("cost 21", Check.confuse(x, "rn", "m", 21), RANGE);
        Check.due("cost -2", Check.confuse(x, "rn", "m", -2), RANGE);
        Check.due("same", Check.confuse(x, "rn", "rn", 1), RANGE);
        Check.due("same, none", Check.confuse(x, "a", "a", NONE), RANGE);
        Check.due("no sign", x.confuse(32, 'a', 1), RANGE);
        Check.due("no sign behind", x.confuse('a', 127, 1), RANGE);
        Check.due("zero", x.confuse(0, 'a', 1), RANGE);
        Check.due("below zero", x.confuse('a', -1, 1), RANGE);
        Check.due("first of two no sign", x.confuse(256 * 32 + 'a', 'a', 1), RANGE);
        Check.due("second of two no sign", x.confuse(256 * 'a' + 127, 'a', 1), RANGE);
        Check.due("three signs", x.confuse(65536 * 'a' + 256 * 'a' + 'a', 'a', 1), RANGE);
        Check.due("least int", x.confuse(Integer.MIN_VALUE + 'a', 'b', 1), RANGE);
        Check.due("count", x.count(0), 1);
        Check.due("pieces", x.count(5), 2);
        Check.due("none any more of none", Check.confuse(x, "a", "b", NONE), NONE);
        Check.due("none any more, turned", Check.confuse(x, "m", "rn", NONE), 20);
        Check.due("again", Check.confuse(x, "m", "rn", NONE), NONE);
        Check.due("count", x.count(0), 0);
        Check.due("pieces", x.count(5), 0);
        Check.due("lowest and highest signs", x.confuse(256 * 33 + 126, 256 * 126 + 33, 1), NONE);
        Check.due("hidden ones too", x.seen('a', 1) + x.confuse('a', 'b', 1), NONE);
    }

    private static void promise6Full() {
        NameGuard x = new NameGuard();
        for (int i = 0; i < 60; i++) {
            Check.due("confusion " + i, x.confuse(256 * 'a' + 33 + i, 256 * 'b' + 33 + i, 1 + i % 20), NONE);
        }
        Check.due("61st", x.confuse('a', 'b', 1), FULL);
        Check.due("61st, wrong", x.confuse('a', 'a', 1), RANGE);
        Check.due("none of it when full", x.confuse('a', 'b', NONE), NONE);
        Check.due("one that is there", x.confuse(256 * 'b' + 33, 256 * 'a' + 33, 7), 1);
        Check.due("count", x.count(0), 60);
        Check.due("pieces", x.count(5), 120);
        Check.due("one less", x.confuse(256 * 'b' + 40, 256 * 'a' + 40, NONE), 8);
        Check.due("another then", x.confuse('a', 'b', 1), NONE);
        Check.due("the last one stays", x.chain(256 * 'a' + 33 + 59, 256 * 'b' + 33 + 59), 20);
        Check.due("pieces", x.count(5), 120);
    }

    private static void promise7() {
        NameGuard x = new NameGuard();
        Check.due("same", x.chain('a', 'a'), 0);
        Check.due("none", x.chain('a', 'b'), NONE);
        Check.due("no piece", x.chain('a', 32), RANGE);
        Check.due("no piece, first", x.chain(127, 'a'), RANGE);
        Check.due("no piece, same", x.chain(5, 5), RANGE);
        Check.due("below 0", x.chain(-5, 'a'), RANGE);
        Check.confuse(x, "a", "b", 20);
        Check.confuse(x, "b", "cd", 3);
        Check.confuse(x, "cd", "ef", 0);
        Check.confuse(x, "a", "ef", 19);
        Check.due("a b", x.chain('a', 'b'), 20);
        Check.due("b a", x.chain('b', 'a'), 20);
        Check.due("b ef", x.chain('b', Check.piece("ef")), 3);
        Check.due("a cd", x.chain('a', Check.piece("cd")), 19);
        Check.due("parts of a piece are no pieces", x.chain('c', Check.piece("ef")), NONE);
        Check.due("turned piece", x.chain(Check.piece("dc"), 'b'), NONE);
        Check.confuse(x, "a", "ef", 4);
        Check.due("a b over three", x.chain('a', 'b'), 7);
        Check.confuse(x, "cd", "ef", NONE);
        Check.due("a b straight again", x.chain('a', 'b'), 20);
        Check.due("same with confusions", x.chain('b', 'b'), 0);
        longChain();
    }

    private static void longChain() {
        NameGuard x = new NameGuard();
        for (int sign = 33; sign < 93; sign++) {
            x.confuse(sign, sign + 1, 20);
        }
        Check.due("sixty steps", x.chain(33, 93), 1200);
        Check.due("and back", x.chain(93, 33), 1200);
        x.confuse(60, 61, NONE);
        Check.due("broken", x.chain(33, 93), NONE);
        x.confuse(33, 93, 1);
        Check.due("round about", x.chain(60, 61), 59 * 20 + 1);
    }

    private static void promise8() {
        NameGuard x = new NameGuard();
        Check.due("no script", x.allow(0), RANGE);
        Check.due("no script is not kept", x.count(1), 0);
        Check.due("bit 0", x.allow(1), RANGE);
        Check.due("bit 8", x.allow(256), RANGE);
        Check.due("bit 0 among others", x.allow(7), RANGE);
        Check.due("below 0", x.allow(-2), RANGE);
        Check.due("first", x.allow(6), 1);
        Check.due("again", x.allow(6), 1);
        Check.due("all", x.allow(254), 2);
        for (int i = 3; i <= 8; i++) {
            Check.due("set " + i, x.allow(1 << (i - 1)), i);
        }
        Check.due("ninth", x.allow(10), FULL);
        Check.due("there already when full", x.allow(254), 8);
        Check.due("wrong when full", x.allow(3), RANGE);
        Check.due("no script when full", x.allow(0), RANGE);
        Check.due("count", x.count(1), 8);
        everySetAlone();
    }

    private static void everySetAlone() {
        for (int set = -2; set <= 258; set++) {
            boolean bits1To7 = set >= 2 && set <= 254 && set % 2 == 0;
            Check.due("allow(" + set + ") alone", new NameGuard().allow(set), bits1To7 ? 1 : RANGE);
        }
    }
}
