/** Promises 9 to 11: the name, its faults, and what it is by the tables. */
public final class NameTest {
    private static final int NONE = NameGuard.NONE;

    private NameTest() {
    }

    public static void main(String[] args) {
        promise9();
        faultsInOrder();
        promise10();
        promise11();
        seenInTurns();
        mixed();
        tablesChange();
        Check.close("NameTest");
    }

    private static void fault(NameGuard x, String text, int kind, int place) {
        Check.due("name of " + text, Check.tell(x, text), NONE);
        Check.due("its fault", x.fault(0), kind);
        Check.due("its place", x.fault(1), place);
        Check.due("the tape is empty", x.count(4), 0);
    }

    private static void promise9() {
        NameGuard x = new NameGuard();
        Check.due("name", Check.tell(x, "abc"), 3);
        Check.due("tape is empty", x.count(4), 0);
        fault(x, "", 3, 0);
        fault(x, "ab cd", 1, 2);
        fault(x, " ", 1, 0);
        fault(x, "a" + (char) 127, 1, 1);
        fault(x, "a" + (char) 200, 1, 1);
        fault(x, "a" + (char) 0, 1, 1);
        fault(x, "a".repeat(25), 4, 25);
        fault(x, "a".repeat(40), 4, 40);
        fault(x, "a".repeat(41), 2, 40);
        Check.dueText("the name stays", Check.seenName(x), "abc");
        Check.due("24 are seen", Check.tell(x, "a".repeat(24)), 24);
        x.seen('-', 1);
        x.seen('<', 2);
        fault(x, "--<", 3, 3);
        fault(x, "-".repeat(41), 2, 40);
        Check.due("40 signs", Check.tell(x, "-".repeat(8) + "a".repeat(24) + "<".repeat(8)), 24);
        fault(x, "-".repeat(8) + "a".repeat(25) + "<".repeat(7), 4, 40);
        Check.due("lowest and highest", Check.tell(x, "!~"), 2);
    }

    private static void faultsInOrder() {
        NameGuard x = new NameGuard();
        fault(x, "a".repeat(40) + " ", 1, 40);
        fault(x, "a".repeat(41) + " ", 2, 40);
        fault(x, "a".repeat(39) + " " + "a".repeat(40), 1, 39);
        fault(x, "a".repeat(200), 2, 40);
        x.seen('-', 1);
        fault(x, "- ", 1, 1);
    }

    private static void promise10() {
        NameGuard x = new NameGuard();
        Check.tell(x, " ");
        Check.due("fault", x.fault(0), 1);
        Check.due("asked again", x.fault(0), 1);
        Check.due("another what", x.fault(2), NONE);
        Check.due("below 0", x.fault(-1), NONE);
        Check.tell(x, "a");
        Check.due("no fault", x.fault(0), 0);
        Check.due("no place", x.fault(1), NONE);
    }

    private static void promise11() {
        NameGuard x = new NameGuard();
        Check.tell(x, "ab1");
        int[] plain = {3, 3, 2, 0, 0, 0, 0};
        for (int what = 0; what < 7; what++) {
            Check.due("about " + what, x.about(what), plain[what]);
        }
        Check.due("about 7", x.about(7), NONE);
        Check.due("about 19", x.about(19), NONE);
        Check.due("about 20", x.about(20), 'a');
        Check.due("about 22", x.about(22), '1');
        Check.due("about 23", x.about(23), NONE);
        Check.due("about -1", x.about(-1), NONE);
        Check.due("about most", x.about(Integer.MAX_VALUE), NONE);
        Check.due("about least", x.about(Integer.MIN_VALUE), NONE);
        marks();
    }

    private static void marks() {
        NameGuard x = new NameGuard();
        x.seen('-', 1);
        x.seen('<', 2);
        marks(x, "abc", 0, 0, 0);
        marks(x, "a-c", 1, 0, 0);
        marks(x, "-ac", 1, 0, 1);
        marks(x, "ac-", 1, 0, 1);
        marks(x, "<ac", 0, 1, 0);
        marks(x, "ac<", 0, 1, 0);
        marks(x, "<-ac<", 1, 1, 0);
        marks(x, "-ac<", 1, 1, 1);
    }

    private static void marks(NameGuard x, String text, int marked, int turned, int padded) {
        Check.tell(x, text);
        Check.due("signs of " + text, x.about(0), text.length());
        Check.due("marked " + text, x.about(4), marked);
        Check.due("turned " + text, x.about(5), turned);
        Check.due("padded " + text, x.about(6), padded);
    }

    private static void seenInTurns() {
        NameGuard x = new NameGuard();
        x.seen('-', 1);
        x.seen('<', 2);
        x.seen('>', 2);
        seen(x, "ab<cd", "abdc");
        seen(x, "<abc", "cba");
        seen(x, "abc<", "abc");
        seen(x, "a<bcd>ef", "adcbef");
        seen(x, "a<bc>de<fgh", "acbdehgf");
        seen(x, "a<b>c<de>fg", "abcedfg");
        seen(x, "a<>bc", "abc");
        seen(x, "a<<bc", "abc");
        seen(x, "a<<<bc", "acb");
        seen(x, "a<b-cd-", "adcb");
    }

    private static void seen(NameGuard x, String text, String want) {
        Check.due("name of " + text, Check.tell(x, text), want.length());
        Check.due("seen ones of " + text, x.about(1), want.length());
        Check.dueText(text + " as it is seen", Check.seenName(x), want);
    }

    private static void mixed() {
        NameGuard x = new NameGuard();
        x.script('b', 2);
        x.script('c', 3);
        x.script('d', 7);
        mixed(x, "a1", 2, 0);
        mixed(x, "12", 0, 0);
        mixed(x, "ab", 6, 1);
        mixed(x, "abc", 14, 1);
        mixed(x, "bd", 132, 1);
        x.allow(2);
        x.allow(4);
        mixed(x, "ab", 6, 1);
        x.allow(6);
        mixed(x, "ab", 6, 0);
        mixed(x, "abc", 14, 1);
        x.allow(12);
        mixed(x, "abc", 14, 1);
        mixed(x, "bc", 12, 0);
        mixed(x, "ac", 10, 1);
        x.allow(14);
        mixed(x, "abc", 14, 0);
        mixed(x, "ac", 10, 0);
        mixed(x, "ad", 130, 1);
        x.seen('d', 1);
        Check.due("hidden ones have no part", x.about(2), 2);
        Check.due("nor mix", x.about(3), 0);
        x.seen('d', 2);
        Check.due("nor have turns", x.about(2), 2);
    }

    private static void mixed(NameGuard x, String text, int scripts, int mixed) {
        Check.tell(x, text);
        Check.due("scripts of " + text, x.about(2), scripts);
        Check.due("mixed " + text, x.about(3), mixed);
    }

    private static void tablesChange() {
        NameGuard x = new NameGuard();
        x.seen('-', 1);
        Check.due("name", Check.tell(x, "-".repeat(16) + "a".repeat(24)), 24);
        x.seen('-', 0);
        Check.due("more than 24", x.about(1), 40);
        Check.due("the last of them", x.about(59), 'a');
        Check.due("none behind it", x.about(60), NONE);
        x.seen('-', 2);
        x.seen('a', 1);
        Check.due("none is seen", x.about(1), 0);
        Check.due("no sign", x.about(20), NONE);
        Check.due("no scripts", x.about(2), 0);
        Check.due("not mixed", x.about(3), 0);
        Check.due("padded", x.about(6), 1);
        Check.due("all signs", x.about(0), 40);
        Check.due("the fault is of that time", x.fault(0), 0);
    }
}
