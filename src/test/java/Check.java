/** Counts the answers that are not as due, and tells texts to a desk. */
final class Check {
    static final int NONE = NameGuard.NONE;
    static final int RANGE = NameGuard.RANGE;
    static final int FULL = NameGuard.FULL;

    private static int checks = 0;
    private static int wrong = 0;
    private static String under = "";

    private Check() {
    }

    /** What the checks from here on are of. */
    static void under(String sentence) {
        under = sentence + ": ";
    }

    static void due(String call, long got, long want) {
        checks++;
        if (got != want) {
            wrong++;
            System.out.println(under + call + " answered " + got + ", due is " + want);
        }
    }

    static void close(String what) {
        System.out.println(what + ": " + checks + " checks, " + wrong + " not as due");
        if (wrong != 0 || checks == 0) {
            System.exit(1);
        }
    }

    /** The piece that stands for a text of one sign or two. */
    static int piece(String text) {
        return text.length() == 1 ? text.charAt(0) : 256 * text.charAt(0) + text.charAt(1);
    }

    /** Puts a text on an empty tape; what is behind it in the last feed is cut off. */
    static void lay(NameGuard guard, String text) {
        guard.end(0);
        for (int at = 0; at < text.length(); at += 20) {
            guard.feed(four(text, at), four(text, at + 4), four(text, at + 8), four(text, at + 12),
                four(text, at + 16));
        }
        guard.end(text.length());
    }

    static int tell(NameGuard guard, String text) {
        lay(guard, text);
        return guard.name();
    }

    static int enter(NameGuard guard, String text, int r, int owner) {
        tell(guard, text);
        return guard.enter(r, owner);
    }

    static int confuse(NameGuard guard, String p, String q, int cost) {
        return guard.confuse(piece(p), piece(q), cost);
    }

    /** THE NAME as it is seen. */
    static String seenName(NameGuard guard) {
        StringBuilder out = new StringBuilder();
        for (int i = 20; guard.about(i) != NONE; i++) {
            out.append((char) guard.about(i));
        }
        return out.toString();
    }

    static void dueText(String call, String got, String want) {
        checks++;
        if (!got.equals(want)) {
            wrong++;
            System.out.println(under + call + " gave '" + got + "', due is '" + want + "'");
        }
    }

    private static int four(String text, int at) {
        int word = 0;
        for (int i = at; i < at + 4; i++) {
            word = word << 8 | (i < text.length() ? text.charAt(i) & 255 : ' ');
        }
        return word;
    }
}
