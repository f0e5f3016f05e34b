/** The boundary cases of promises 9 to 11, and of the terms they use, a test for each sentence that names one. */
public final class BoundsOfNamesTest {
    private static final int NONE = NameGuard.NONE;
    private static final int LEAST = Integer.MIN_VALUE;
    private static final int MOST = Integer.MAX_VALUE;

    private BoundsOfNamesTest() {
    }

    public static void main(String[] args) {
        tapeIsEmptyThen();
        nameStays();
        byteThatIsNoSign();
        fortyFirstSign();
        noneIsSeen();
        moreThan24();
        firstFaultIsTold();
        faultOfTheLatest();
        faultOfAnotherWhat();
        aboutNoName();
        aboutOutside();
        aboutEachSign();
        seenOnesChange();
        turnsUpToTheEnd();
        scriptsButNought();
        mixedOfTwoOrMore();
        markedTurnedPadded();
        Doc.dueAll(9, 11);
        Check.close("BoundsOfNamesTest");
    }

    /** '-' is hidden and '<' is a turn. */
    private static NameGuard desk() {
        NameGuard x = new NameGuard();
        x.seen('-', 1);
        x.seen('<', 2);
        return x;
    }

    private static void fault(NameGuard x, String text, int kind, int place) {
        Check.due("name of '" + text + "'", Check.tell(x, text), NONE);
        Check.due("fault of '" + text + "'", x.fault(0), kind);
        Check.due("place in '" + text + "'", x.fault(1), place);
    }

    private static void tapeIsEmptyThen() {
        Doc.promise(9, "THE TAPE (empty then) is THE NAME: how many SIGNS of it are SEEN.");
        NameGuard x = desk();
        Check.due("one sign", Check.tell(x, "a"), 1);
        Check.due("the tape is empty", x.count(4), 0);
        Check.due("nothing to keep", x.end(1), NONE);
        Check.due("hidden ones and turns do not count", Check.tell(x, "-a<b-"), 2);
        String[] faulty = {"a b", "a".repeat(41), "--", "a".repeat(25), "a".repeat(200)};
        for (String text : faulty) {
            Check.due("name of " + text, Check.tell(x, text), NONE);
            Check.due("the tape is empty with a fault, too", x.count(4), 0);
            Check.due("a new one begins", x.feed(0x61616161, 0, 0, 0, 0), 20);
        }
    }

    private static void nameStays() {
        Doc.promise(9, "NONE with a FAULT (THE NAME stays)");
        NameGuard x = desk();
        String[] faulty = {"", "x y", "x".repeat(41), "--", "<", "x".repeat(25)};
        for (String text : faulty) {
            Check.due("no name before", Check.tell(x, text), NONE);
            Check.due("none after", x.about(0), NONE);
            Check.due("none to ask for", x.ask(0, 0), NONE);
        }
        Check.due("a name", Check.tell(x, "a-b<cd"), 4);
        for (String text : faulty) {
            Check.due("name of " + text, Check.tell(x, text), NONE);
            Check.due("its signs", x.about(0), 6);
            Check.dueText("the name stays", Check.seenName(x), "abdc");
        }
        Check.due("it can be let in", x.enter(0, 0), 0);
        Check.due("as it was told", x.entry(0, 25), 'd');
    }

    private static void byteThatIsNoSign() {
        Doc.promise(9, "1 a byte that is no SIGN (at it)");
        for (int b : new int[] {0, 1, 31, 32, 127, 128, 129, 161, 225, 254, 255}) {
            NameGuard x = desk();
            fault(x, "" + (char) b, 1, 0);
            fault(x, "aaa" + (char) b, 1, 3);
            fault(x, "-" + (char) b + "a" + (char) b, 1, 1);
            fault(x, "a".repeat(39) + (char) b, 1, 39);
        }
        NameGuard y = new NameGuard();
        for (int b = 33; b <= 126; b++) {
            Check.due("name of " + b, Check.tell(y, "" + (char) b), 1);
        }
    }

    private static void fortyFirstSign() {
        Doc.promise(9, "2 the 41st SIGN (at it)");
        NameGuard x = desk();
        Check.due("forty", Check.tell(x, "-".repeat(39) + "a"), 1);
        Check.due("its signs", x.about(0), 40);
        fault(x, "-".repeat(40) + "a", 2, 40);
        fault(x, "a" + "-".repeat(40), 2, 40);
        fault(x, "<".repeat(41), 2, 40);
        fault(x, "-".repeat(42), 2, 40);
        fault(x, "a".repeat(199), 2, 40);
        fault(x, "a".repeat(200), 2, 40);
        Check.due("forty turns", Check.tell(x, "ab" + "<".repeat(38)), 2);
    }

    private static void noneIsSeen() {
        Doc.promise(9, "3 none is SEEN");
        NameGuard x = desk();
        fault(x, "", 3, 0);
        fault(x, "-", 3, 1);
        fault(x, "<", 3, 1);
        fault(x, "-<-<", 3, 4);
        fault(x, "-".repeat(40), 3, 40);
        Check.due("one is seen", Check.tell(x, "-".repeat(20) + "a" + "<".repeat(19)), 1);
        x.seen('a', 1);
        fault(x, "aa", 3, 2);
        x.seen('a', 0);
        Check.due("it is seen again", Check.tell(x, "aa"), 2);
    }

    private static void moreThan24() {
        Doc.promise(9, "4 more than 24 are SEEN (both at the text's length)");
        NameGuard x = desk();
        Check.due("24", Check.tell(x, "a".repeat(24)), 24);
        fault(x, "a".repeat(25), 4, 25);
        fault(x, "a".repeat(40), 4, 40);
        Check.due("24 among hidden ones", Check.tell(x, "-".repeat(8) + "a".repeat(24) + "-".repeat(8)), 24);
        fault(x, "-".repeat(8) + "a".repeat(25) + "-".repeat(7), 4, 40);
        Check.due("24 among turns", Check.tell(x, "a".repeat(12) + "<".repeat(16) + "a".repeat(12)), 24);
        fault(x, "a".repeat(12) + "<".repeat(5) + "a".repeat(13), 4, 30);
    }

    private static void firstFaultIsTold() {
        Doc.promise(9, "1 a byte that is no SIGN (at it), 2 the 41st SIGN (at it), 3 none is SEEN, 4 more than 24 are SEEN");
        NameGuard x = desk();
        fault(x, "a".repeat(30) + " ", 1, 30);
        fault(x, "-- ", 1, 2);
        fault(x, "a".repeat(40) + " ", 1, 40);
        fault(x, "a".repeat(39) + " a", 1, 39);
        fault(x, "a".repeat(41) + " ", 2, 40);
        fault(x, "-".repeat(41), 2, 40);
        fault(x, "a".repeat(41), 2, 40);
        fault(x, "  a", 1, 0);
    }

    private static void faultOfTheLatest() {
        Doc.promise(10, "Of the latest name(), what 0: its FAULT (0), 1: its place (NONE).");
        NameGuard x = new NameGuard();
        Check.due("before any", x.fault(0), 0);
        Check.due("place before any", x.fault(1), NONE);
        fault(x, "ab ", 1, 2);
        Check.due("told again", x.fault(0), 1);
        Check.due("place told again", x.fault(1), 2);
        x.seen('a', 1);
        x.feed(0, 0, 0, 0, 0);
        x.end(0);
        Check.due("other calls change nothing of it", x.fault(0), 1);
        Check.due("nor of its place", x.fault(1), 2);
        fault(x, "a", 3, 1);
        x.seen('a', 0);
        Check.due("none is seen, as it was then", x.fault(0), 3);
        Check.due("a name", Check.tell(x, "a"), 1);
        Check.due("no fault", x.fault(0), 0);
        Check.due("no place", x.fault(1), NONE);
        x.seen('a', 1);
        Check.due("no fault, as it was then", x.fault(0), 0);
        fault(x, "b".repeat(41), 2, 40);
        fault(x, "b".repeat(25), 4, 25);
    }

    private static void faultOfAnotherWhat() {
        Doc.promise(10, "NONE for another what.");
        NameGuard x = new NameGuard();
        for (int round = 0; round < 2; round++) {
            for (int what : new int[] {-1, -2, 2, 3, 20, 256, 257, LEAST, LEAST + 1, MOST}) {
                Check.due("fault(" + what + ")", x.fault(what), NONE);
            }
            fault(x, "ab ", 1, 2);
        }
    }

    private static void aboutNoName() {
        Doc.promise(11, "NONE when there is none such.");
        NameGuard x = new NameGuard();
        for (int what = -1; what <= 61; what++) {
            Check.due("about(" + what + ") of no name", x.about(what), NONE);
        }
        Check.tell(x, " ");
        Check.due("with a fault alone", x.about(0), NONE);
    }

    private static void aboutOutside() {
        Doc.promise(11, "20 + i: SIGN i as it is SEEN. NONE when there is none such.");
        NameGuard x = desk();
        Check.tell(x, "-ab-");
        int[] outside = {LEAST, LEAST + 20, -20, -1, 7, 8, 10, 19, 22, 23, 24, 44, 59, 60, 61, 256, 256 + 20, 65536 + 20,
            MOST - 20, MOST};
        for (int what : outside) {
            Check.due("about(" + what + ")", x.about(what), NONE);
        }
        Check.due("the first", x.about(20), 'a');
        Check.due("the last", x.about(21), 'b');
    }

    private static void aboutEachSign() {
        Doc.promise(11, "what 0: SIGNS, 1: SEEN ones");
        NameGuard x = desk();
        StringBuilder text = new StringBuilder();
        for (int i = 0; i < 24; i++) {
            text.append((char) ('a' + i));
            text.append(i < 16 ? "-" : "");
        }
        Check.due("name", Check.tell(x, text.toString()), 24);
        Check.due("signs", x.about(0), 40);
        Check.due("seen ones", x.about(1), 24);
        for (int i = 0; i < 24; i++) {
            Check.due("sign " + i, x.about(20 + i), 'a' + i);
        }
        Check.due("none behind", x.about(44), NONE);
        x.seen('-', 0);
        for (int i = 0; i < 40; i++) {
            Check.due("sign " + i + " of all", x.about(20 + i), text.charAt(i));
        }
        Check.due("none behind all", x.about(60), NONE);
    }

    private static void seenOnesChange() {
        Doc.promise(11, "(SEEN ones may be 0 when tables have changed, or more than 24.)");
        NameGuard x = desk();
        Check.due("name", Check.tell(x, "a".repeat(24) + "-".repeat(16)), 24);
        x.seen('-', 0);
        Check.due("forty", x.about(1), 40);
        Check.due("not marked", x.about(4), 0);
        Check.due("nor padded", x.about(6), 0);
        x.seen('a', 1);
        Check.due("sixteen", x.about(1), 16);
        Check.due("the first", x.about(20), '-');
        Check.due("marked", x.about(4), 1);
        Check.due("padded", x.about(6), 1);
        x.seen('-', 2);
        Check.due("none", x.about(1), 0);
        Check.due("no sign", x.about(20), NONE);
        Check.due("no scripts", x.about(2), 0);
        Check.due("not mixed", x.about(3), 0);
        Check.due("turned", x.about(5), 1);
        Check.due("signs", x.about(0), 40);
        x.seen('a', 0);
        Check.due("24 again", x.about(1), 24);
        Check.due("not marked again", x.about(4), 0);
    }

    private static void seen(NameGuard x, String text, String want) {
        Check.due("name of " + text, Check.tell(x, text), want.length());
        Check.dueText(text + " as it is seen", Check.seenName(x), want);
    }

    private static void turnsUpToTheEnd() {
        Doc.termsI("what stands behind the first TURN up to the second one (or the end) is in turned order, behind the "
            + "second one straight again, and so on.");
        NameGuard x = desk();
        x.seen('>', 2);
        seen(x, "abc", "abc");
        seen(x, "<abc", "cba");
        seen(x, "abc<", "abc");
        seen(x, "ab<c", "abc");
        seen(x, "a<bc", "acb");
        seen(x, "a<bcd>", "adcb");
        seen(x, "a<bcd>ef", "adcbef");
        seen(x, "a<bcd<ef", "adcbef");
        seen(x, "<ab>cd<ef>gh", "bacdfegh");
        seen(x, "<ab>cd<ef>gh<ij", "bacdfeghji");
        seen(x, "<>abc", "abc");
        seen(x, "<><abc", "cba");
        seen(x, "ab<><cd", "abdc");
        seen(x, "a<-b-c-", "acb");
        seen(x, "<" + "ab".repeat(12), "ba".repeat(12));
        x.seen('a', 2);
        seen(x, "bacde<fg", "bedcfg");
        x.seen('a', 0);
        Check.dueText("by the tables as they are", Check.seenName(x), "bacdegf");
    }

    private static void scriptsButNought() {
        Doc.termsI("A name's SCRIPTS: those of its SEEN SIGNS, but 0.");
        NameGuard x = desk();
        x.script('7', 7);
        x.script('-', 3);
        x.script('<', 4);
        Check.tell(x, "12");
        Check.due("none", x.about(2), 0);
        Check.tell(x, "17");
        Check.due("the highest", x.about(2), 128);
        Check.tell(x, "1a-<7");
        Check.due("two", x.about(2), 130);
        x.seen('-', 0);
        Check.due("three", x.about(2), 138);
        x.seen('<', 0);
        Check.due("four", x.about(2), 154);
        x.script('a', 0);
        Check.due("three again", x.about(2), 152);
    }

    private static void mixedOfTwoOrMore() {
        Doc.termsI("It is MIXED if these are two or more and no told SET has them all");
        NameGuard x = new NameGuard();
        for (int script = 1; script <= 7; script++) {
            x.script('0' + script, script);
        }
        mixed(x, "0", 0);
        mixed(x, "01", 0);
        mixed(x, "11", 0);
        mixed(x, "12", 1);
        mixed(x, "17", 1);
        mixed(x, "1234567", 1);
        x.allow(252);
        mixed(x, "1234567", 1);
        mixed(x, "234567", 0);
        mixed(x, "27", 0);
        mixed(x, "12", 1);
        x.allow(126);
        mixed(x, "1234567", 1);
        mixed(x, "12", 0);
        mixed(x, "17", 1);
        x.allow(254);
        mixed(x, "1234567", 0);
        mixed(x, "17", 0);
        mixed(x, "0", 0);
    }

    private static void mixed(NameGuard x, String text, int want) {
        Check.tell(x, text);
        Check.due("mixed " + text, x.about(3), want);
    }

    private static void markedTurnedPadded() {
        Doc.termsI("It is MARKED if it has a HIDDEN sign, TURNED if it has a TURN, PADDED if its first or its last SIGN is "
            + "HIDDEN.");
        NameGuard x = desk();
        marks(x, "a", 0, 0, 0);
        marks(x, "aaa", 0, 0, 0);
        marks(x, "a-a", 1, 0, 0);
        marks(x, "-a", 1, 0, 1);
        marks(x, "a-", 1, 0, 1);
        marks(x, "-a-", 1, 0, 1);
        marks(x, "<a", 0, 1, 0);
        marks(x, "a<", 0, 1, 0);
        marks(x, "<-a-<", 1, 1, 0);
        marks(x, "a<-", 1, 1, 1);
        marks(x, "-<a", 1, 1, 1);
        Check.tell(x, "b");
        x.seen('b', 1);
        marks("b, hidden", x, 1, 0, 1);
        x.seen('b', 2);
        marks("b, a turn", x, 0, 1, 0);
    }

    private static void marks(NameGuard x, String text, int marked, int turned, int padded) {
        Check.tell(x, text);
        marks(text, x, marked, turned, padded);
    }

    private static void marks(String what, NameGuard x, int marked, int turned, int padded) {
        Check.due("marked " + what, x.about(4), marked);
        Check.due("turned " + what, x.about(5), turned);
        Check.due("padded " + what, x.about(6), padded);
    }
}
