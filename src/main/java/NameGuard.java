import java.util.Arrays;

/** A desk that guards names against look-alikes; ../shared/DOC.md tells its promises by number. */
public final class NameGuard {
    public static final int NONE = -1;
    public static final int RANGE = -2;
    public static final int FULL = -3;

    private static final int TAPE_ROOM = 200;
    private static final int FEED_BYTES = 20;

    private static final int LOWEST_SIGN = 33;
    private static final int HIGHEST_SIGN = 126;
    private static final int SIGN_ROOM = HIGHEST_SIGN + 1;
    private static final int MOST_SCRIPT = 7;
    private static final int SEEN = 0;
    private static final int HIDDEN = 1;
    private static final int TURN = 2;

    private static final int MOST_CONFUSIONS = 60;
    private static final int MOST_PIECES = 2 * MOST_CONFUSIONS;
    private static final int MOST_COST = 20;
    private static final int MOST_SETS = 8;
    private static final int SET_BITS = 0xFE;

    private static final int MOST_SIGNS = 40;
    private static final int MOST_SEEN = 24;
    private static final int FAULT_NO_SIGN = 1;
    private static final int FAULT_TOO_LONG = 2;
    private static final int FAULT_NONE_SEEN = 3;
    private static final int FAULT_TOO_MANY_SEEN = 4;

    private static final int REGISTERS = 4;
    private static final int OWNERS = 32;
    private static final int MOST_ENTRIES = 200;
    private static final int MOST_BOUND = 200;
    private static final int MOST_TOLD_PAIRS = 1000;
    private static final int FIRST_SIGN_ASKED = 20;

    private static final int FREE = 0;
    private static final int WARNED = 1;
    private static final int REFUSED = 2;
    private static final int HELD = 3;
    private static final int NOT_LET_IN = -10;

    /** Above every cost that can be, and so low that two of them still fit an int. */
    private static final int FAR = 1 << 29;
    private static final int NO_LIMIT = FAR - 1;

    private final int[] tape;
    private int tapeLength;
    private final SignTable signs;
    private final ScriptSets sets;
    private final PieceTable pieces;
    private Text theName;
    private int faultKind;
    private int faultPlace;
    private final Register[] registers;
    private final Entry[] entries;
    private int entryCount;
    private final Measure measure;
    private final NearList nearList;
    private final Way toldWay;
    private final PairList pairs;

    public NameGuard() {
        tape = new int[TAPE_ROOM];
        tapeLength = 0;
        signs = new SignTable();
        sets = new ScriptSets();
        pieces = new PieceTable();
        theName = null;
        faultKind = 0;
        faultPlace = NONE;
        registers = new Register[REGISTERS];
        for (int r = 0; r < REGISTERS; r++) {
            registers[r] = new Register();
        }
        entries = new Entry[MOST_ENTRIES];
        entryCount = 0;
        measure = new Measure(pieces);
        nearList = new NearList();
        toldWay = new Way();
        pairs = new PairList();
    }

    // ---- the tape

    public int feed(int a, int b, int c, int d, int e) {
        if (tapeLength > TAPE_ROOM - FEED_BYTES) {
            return FULL;
        }
        putBytes(a);
        putBytes(b);
        putBytes(c);
        putBytes(d);
        putBytes(e);
        return tapeLength;
    }

    private void putBytes(int four) {
        for (int shift = 24; shift >= 0 && tapeLength < TAPE_ROOM; shift -= 8) {
            tape[tapeLength] = (four >>> shift) & 255;
            tapeLength++;
        }
    }

    public int end(int n) {
        if (n < 0 || n > tapeLength) {
            return NONE;
        }
        tapeLength = n;
        return n;
    }

    // ---- tables

    public int script(int sign, int script) {
        if (!isSign(sign) || script < 0 || script > MOST_SCRIPT) {
            return RANGE;
        }
        return signs.changeScript(sign, script);
    }

    public int seen(int sign, int how) {
        if (!isSign(sign) || how < SEEN || how > TURN) {
            return RANGE;
        }
        return signs.changeHow(sign, how);
    }

    public int confuse(int p, int q, int cost) {
        if (!isPiece(p) || !isPiece(q) || p == q || cost < NONE || cost > MOST_COST) {
            return RANGE;
        }
        return cost == NONE ? pieces.forget(p, q) : pieces.tell(p, q, cost);
    }

    public int chain(int p, int q) {
        if (!isPiece(p) || !isPiece(q)) {
            return RANGE;
        }
        if (p == q) {
            return 0;
        }
        pieces.closeChains();
        int cost = pieces.leastBetween(pieces.indexOf(p), pieces.indexOf(q));
        return cost < FAR ? cost : NONE;
    }

    public int allow(int set) {
        return isSet(set) ? sets.add(set) : RANGE;
    }

    /** A number without any script's bit names no scripts that could stand together. */
    private static boolean isSet(int number) {
        return number != 0 && (number & ~SET_BITS) == 0;
    }

    private static boolean isSign(int number) {
        return number >= LOWEST_SIGN && number <= HIGHEST_SIGN;
    }

    private static boolean isPiece(int number) {
        return isSign(number) || isSign(number >> 8) && isSign(number & 255);
    }

    // ---- the name

    public int name() {
        int length = tapeLength;
        tapeLength = 0;
        judgeTape(length);
        if (faultKind != 0) {
            return NONE;
        }
        theName = new Text(tape, length);
        theName.look(signs);
        return theName.seenCount;
    }

    private void judgeTape(int length) {
        int seenOnes = 0;
        for (int i = 0; i < length && i < TAPE_ROOM; i++) {
            int sign = tape[i];
            if (!isSign(sign)) {
                setFault(FAULT_NO_SIGN, i);
                return;
            }
            if (i >= MOST_SIGNS) {
                setFault(FAULT_TOO_LONG, i);
                return;
            }
            seenOnes += signs.howOf(sign) == SEEN ? 1 : 0;
        }
        if (seenOnes == 0) {
            setFault(FAULT_NONE_SEEN, length);
        } else if (seenOnes > MOST_SEEN) {
            setFault(FAULT_TOO_MANY_SEEN, length);
        } else {
            setFault(0, NONE);
        }
    }

    private void setFault(int kind, int place) {
        faultKind = kind;
        faultPlace = place;
    }

    public int fault(int what) {
        switch (what) {
            case 0: return faultKind;
            case 1: return faultPlace;
            default: return NONE;
        }
    }

    public int about(int what) {
        if (theName == null) {
            return NONE;
        }
        theName.look(signs);
        switch (what) {
            case 0: return theName.length;
            case 1: return theName.seenCount;
            case 2: return theName.scriptBits(signs);
            case 3: return bit(isMixed(theName));
            case 4: return bit(theName.has(HIDDEN, signs));
            case 5: return bit(theName.has(TURN, signs));
            case 6: return bit(theName.isPadded(signs));
            default: return what < FIRST_SIGN_ASKED ? NONE : theName.seenAt(what - FIRST_SIGN_ASKED);
        }
    }

    private boolean isMixed(Text text) {
        int scripts = text.scriptBits(signs);
        return Integer.bitCount(scripts) >= 2 && !sets.holdTogether(scripts);
    }

    private static int bit(boolean holds) {
        return holds ? 1 : 0;
    }

    // ---- registers

    public int rule(int r, int refuses, int warns, boolean strict) {
        Register register = registerAt(r);
        if (register == null || refuses < 0 || warns < refuses || warns > MOST_BOUND) {
            return RANGE;
        }
        register.refuses = refuses;
        register.warns = warns;
        register.strict = strict;
        return 1;
    }

    public int ask(int r, int owner) {
        return verdict(r, owner);
    }

    private int verdict(int r, int owner) {
        Register register = registerAt(r);
        if (register == null || owner < 0 || owner >= OWNERS) {
            return RANGE;
        }
        Text asked = theName;
        if (asked == null) {
            return NONE;
        }
        asked.look(signs);
        if (asked.seenCount == 0) {
            return NONE;
        }
        if (isHeld(asked, r)) {
            return HELD;
        }
        if (register.strict && isMixed(asked)) {
            return REFUSED;
        }
        int cost = leastToOthers(asked, r, owner, register.warns);
        if (cost <= register.refuses) {
            return REFUSED;
        }
        return cost <= register.warns ? WARNED : FREE;
    }

    private boolean isHeld(Text asked, int r) {
        for (int e = 0; e < entryCount; e++) {
            Entry other = standingAt(e);
            if (other != null && other.register == r) {
                other.text.look(signs);
                if (other.text.isSeenAs(asked)) {
                    return true;
                }
            }
        }
        return false;
    }

    /** FAR when no entry of another owner lies within the limit. */
    private int leastToOthers(Text asked, int r, int owner, int limit) {
        int least = FAR;
        for (int e = 0; e < entryCount; e++) {
            Entry other = standingAt(e);
            if (other != null && other.register == r && other.owner != owner) {
                int cost = costBetween(asked, other.text, Math.min(limit, least));
                if (cost != NONE) {
                    least = cost;
                }
            }
        }
        return least;
    }

    public int enter(int r, int owner) {
        int answer = verdict(r, owner);
        if (answer < FREE) {
            return answer;
        }
        if (answer > WARNED) {
            return NOT_LET_IN - answer;
        }
        if (entryCount >= MOST_ENTRIES) {
            return FULL;
        }
        entries[entryCount] = new Entry(r, owner, theName);
        entryCount++;
        return entryCount - 1;
    }

    public int strike(int e) {
        Entry struck = standingAt(e);
        if (struck == null) {
            return RANGE;
        }
        struck.stands = false;
        return 1;
    }

    public int entry(int e, int what) {
        Entry asked = entryAt(e);
        if (asked == null) {
            return NONE;
        }
        asked.text.look(signs);
        switch (what) {
            case 0: return asked.register;
            case 1: return asked.owner;
            case 2: return asked.text.length;
            case 3: return asked.text.seenCount;
            case 4: return bit(asked.stands);
            default: return what < FIRST_SIGN_ASKED ? NONE : asked.text.toldAt(what - FIRST_SIGN_ASKED);
        }
    }

    public int far(int e) {
        Entry other = standingAt(e);
        if (other == null) {
            return RANGE;
        }
        return theName == null ? NONE : costBetween(theName, other.text, NO_LIMIT);
    }

    public int near(int r, int cost) {
        if (registerAt(r) == null || cost < 0 || cost > MOST_BOUND) {
            return RANGE;
        }
        if (theName == null) {
            return NONE;
        }
        nearList.size = 0;
        for (int e = 0; e < entryCount; e++) {
            Entry other = standingAt(e);
            if (other != null && other.register == r) {
                int howFar = costBetween(theName, other.text, cost);
                if (howFar != NONE) {
                    nearList.insert(e, howFar);
                }
            }
        }
        return nearList.size;
    }

    public int nearest(int i, int what) {
        return nearList.tell(i, what);
    }

    public int ways(int e) {
        Entry other = standingAt(e);
        if (other == null) {
            return RANGE;
        }
        if (theName == null || costBetween(theName, other.text, NO_LIMIT) == NONE) {
            return NONE;
        }
        measure.writeWay(theName, other.text, toldWay);
        return toldWay.size;
    }

    public int way(int i, int what) {
        return toldWay.tell(i, what);
    }

    public int likes(int r) {
        Register register = registerAt(r);
        if (register == null) {
            return RANGE;
        }
        pairs.total = 0;
        for (int e = 0; e < entryCount; e++) {
            Entry lesser = standingAt(e);
            if (lesser != null && lesser.register == r) {
                addPairsOf(e, lesser, register.refuses);
            }
        }
        return pairs.total;
    }

    private void addPairsOf(int e, Entry lesser, int limit) {
        for (int f = e + 1; f < entryCount; f++) {
            Entry other = standingAt(f);
            if (other != null && other.register == lesser.register && other.owner != lesser.owner) {
                int cost = costBetween(lesser.text, other.text, limit);
                if (cost != NONE) {
                    pairs.add(e, f, cost);
                }
            }
        }
    }

    public int like(int i, int what) {
        return pairs.tell(i, what);
    }

    public int count(int what) {
        switch (what) {
            case 0: return pieces.confusions;
            case 1: return sets.size;
            case 2: return entryCount;
            case 3: return countStanding();
            case 4: return tapeLength;
            case 5: return pieces.countPieces();
            default: return countOfRegister(what);
        }
    }

    private int countStanding() {
        int standing = 0;
        for (int e = 0; e < entryCount; e++) {
            standing += standingAt(e) != null ? 1 : 0;
        }
        return standing;
    }

    private int countOfRegister(int what) {
        if (what < 10) {
            return NONE;
        }
        Register register = registerAt(what % 10);
        if (register == null) {
            return NONE;
        }
        switch (what / 10) {
            case 1: return register.refuses;
            case 2: return register.warns;
            case 3: return bit(register.strict);
            default: return NONE;
        }
    }

    /** Null when there is no such register. */
    private Register registerAt(int r) {
        return r >= 0 && r < REGISTERS ? registers[r] : null;
    }

    /** Null when there is no such entry. */
    private Entry entryAt(int e) {
        return e >= 0 && e < entryCount && e < MOST_ENTRIES ? entries[e] : null;
    }

    /** Null when there is no such entry, or it is struck. */
    private Entry standingAt(int e) {
        Entry found = entryAt(e);
        return found != null && found.stands ? found : null;
    }

    /** NONE when there is no way, or it costs more than the limit. */
    private int costBetween(Text x, Text y, int limit) {
        pieces.closeChains();
        x.look(signs);
        y.look(signs);
        x.findPieces(pieces);
        y.findPieces(pieces);
        return measure.leastWithin(x, y, limit);
    }

    /** What each sign is: its script, and whether it is seen, hidden or a turn. */
    private static final class SignTable {
        private final int[] scripts;
        private final int[] hows;
        /** Another number after each change of what is seen, so that texts know when to look again. */
        private int stamp;

        SignTable() {
            scripts = new int[SIGN_ROOM];
            hows = new int[SIGN_ROOM];
            stamp = 0;
            Arrays.fill(scripts, 'A', 'Z' + 1, 1);
            Arrays.fill(scripts, 'a', 'z' + 1, 1);
        }

        int scriptOf(int sign) {
            return isSign(sign) ? scripts[sign] : 0;
        }

        int howOf(int sign) {
            return isSign(sign) ? hows[sign] : HIDDEN;
        }

        int changeScript(int sign, int script) {
            int before = scriptOf(sign);
            if (isSign(sign)) {
                scripts[sign] = script;
            }
            return before;
        }

        int changeHow(int sign, int how) {
            int before = howOf(sign);
            if (isSign(sign) && before != how) {
                hows[sign] = how;
                stamp++;
            }
            return before;
        }
    }

    /** The sets of scripts that may stand together. */
    private static final class ScriptSets {
        private final int[] bits;
        private int size;

        ScriptSets() {
            bits = new int[MOST_SETS];
            size = 0;
        }

        int add(int set) {
            for (int i = 0; i < size; i++) {
                if (bits[i] == set) {
                    return size;
                }
            }
            if (size >= MOST_SETS) {
                return FULL;
            }
            bits[size] = set;
            size++;
            return size;
        }

        boolean holdTogether(int scripts) {
            for (int i = 0; i < size; i++) {
                if ((scripts & ~bits[i]) == 0) {
                    return true;
                }
            }
            return false;
        }
    }

    /** The confusions, and the least costs of all chains that they make. */
    private static final class PieceTable {
        private final int[] ones;
        private final int[] others;
        private final int[] costs;
        private int confusions;
        /** Another number after each change, so that chains and texts know when they are out of date. */
        private int stamp;
        private int closedStamp;

        private final int[] codes;
        private int codeCount;
        /** By a sign: the latest piece that begins with it; by a piece: the one before it with the same sign. */
        private final int[] latest;
        private final int[] before;
        /** Rows of codeCount costs each; it grows with need, for most objects never need all of it. */
        private int[] least;

        PieceTable() {
            ones = new int[MOST_CONFUSIONS];
            others = new int[MOST_CONFUSIONS];
            costs = new int[MOST_CONFUSIONS];
            confusions = 0;
            stamp = 0;
            closedStamp = NONE;
            codes = new int[MOST_PIECES];
            codeCount = 0;
            latest = new int[SIGN_ROOM];
            before = new int[MOST_PIECES];
            least = new int[0];
        }

        int tell(int p, int q, int cost) {
            int at = placeOf(p, q);
            if (at != NONE) {
                int old = costs[at];
                costs[at] = cost;
                stamp++;
                return old;
            }
            if (confusions >= MOST_CONFUSIONS) {
                return FULL;
            }
            ones[confusions] = p;
            others[confusions] = q;
            costs[confusions] = cost;
            confusions++;
            stamp++;
            return NONE;
        }

        int forget(int p, int q) {
            int at = placeOf(p, q);
            if (at == NONE) {
                return NONE;
            }
            int old = costs[at];
            confusions--;
            ones[at] = ones[confusions];
            others[at] = others[confusions];
            costs[at] = costs[confusions];
            stamp++;
            return old;
        }

        private int placeOf(int p, int q) {
            for (int i = 0; i < confusions; i++) {
                if (ones[i] == p && others[i] == q || ones[i] == q && others[i] == p) {
                    return i;
                }
            }
            return NONE;
        }

        int countPieces() {
            closeChains();
            return codeCount;
        }

        /** Brings what the methods below answer up to date. */
        void closeChains() {
            if (closedStamp == stamp) {
                return;
            }
            closedStamp = stamp;
            codeCount = 0;
            Arrays.fill(latest, NONE);
            for (int i = 0; i < confusions; i++) {
                addPiece(ones[i]);
                addPiece(others[i]);
            }
            writeSteps();
            for (int over = 0; over < codeCount; over++) {
                goOver(over);
            }
        }

        private void addPiece(int piece) {
            int sign = leadingSign(piece);
            if (!isSign(sign) || codeCount >= MOST_PIECES || indexOf(piece) != NONE) {
                return;
            }
            codes[codeCount] = piece;
            before[codeCount] = latest[sign];
            latest[sign] = codeCount;
            codeCount++;
        }

        /** NONE when the piece is in no confusion. */
        int indexOf(int piece) {
            int sign = leadingSign(piece);
            int at = isSign(sign) ? latest[sign] : NONE;
            for (int n = 0; n < codeCount && at >= 0 && at < codeCount; n++) {
                if (codes[at] == piece) {
                    return at;
                }
                at = before[at];
            }
            return NONE;
        }

        /** FAR when no chain leads from one index to the other; an index may be NONE. */
        int leastBetween(int from, int to) {
            if (from < 0 || to < 0 || from >= codeCount || to >= codeCount) {
                return FAR;
            }
            return least[from * codeCount + to];
        }

        private static int leadingSign(int piece) {
            return piece > 255 ? piece >> 8 : piece;
        }

        private void writeSteps() {
            int n = codeCount;
            if (least.length < n * n) {
                least = new int[Math.max(n * n, Math.min(2 * least.length, MOST_PIECES * MOST_PIECES))];
            }
            Arrays.fill(least, 0, n * n, FAR);
            for (int i = 0; i < n; i++) {
                least[i * n + i] = 0;
            }
            for (int i = 0; i < confusions; i++) {
                int p = indexOf(ones[i]);
                int q = indexOf(others[i]);
                if (p != NONE && q != NONE) {
                    least[p * n + q] = costs[i];
                    least[q * n + p] = costs[i];
                }
            }
        }

        /** Shortens each chain that is shorter through the piece of this index. */
        private void goOver(int over) {
            int n = codeCount;
            for (int from = 0; from < n; from++) {
                int half = least[from * n + over];
                if (half < FAR && from != over) {
                    for (int to = 0; to < n; to++) {
                        int through = half + least[over * n + to];
                        if (through < least[from * n + to]) {
                            least[from * n + to] = through;
                        }
                    }
                }
            }
        }
    }

    /** A text as it was told, and, by the tables it looked at last, as it is seen. */
    private static final class Text {
        private final int[] told;
        private final int length;
        private final int[] seenSigns;
        private int seenCount;
        private int signStamp;
        /** The indexes in the piece table of the one sign, and of the two signs, at each seen place. */
        private final int[] single;
        private final int[] pair;
        private int pieceStamp;

        Text(int[] source, int signCount) {
            length = Math.max(0, Math.min(signCount, Math.min(source.length, MOST_SIGNS)));
            told = Arrays.copyOf(source, length);
            seenSigns = new int[length];
            single = new int[length];
            pair = new int[length];
            seenCount = 0;
            signStamp = NONE;
            pieceStamp = NONE;
        }

        int toldAt(int i) {
            return i >= 0 && i < length ? told[i] : NONE;
        }

        int seenAt(int i) {
            return i >= 0 && i < seenCount ? seenSigns[i] : NONE;
        }

        void look(SignTable signs) {
            if (signStamp == signs.stamp) {
                return;
            }
            signStamp = signs.stamp;
            pieceStamp = NONE;
            seenCount = 0;
            boolean turned = false;
            int from = 0;
            for (int i = 0; i < length; i++) {
                int how = signs.howOf(told[i]);
                if (how == SEEN) {
                    seenSigns[seenCount] = told[i];
                    seenCount++;
                } else if (how == TURN) {
                    if (turned) {
                        turnFrom(from);
                    }
                    turned = !turned;
                    from = seenCount;
                }
            }
            if (turned) {
                turnFrom(from);
            }
        }

        private void turnFrom(int from) {
            int high = seenCount - 1;
            for (int low = Math.max(0, from); low < high; low++) {
                int kept = seenSigns[low];
                seenSigns[low] = seenSigns[high];
                seenSigns[high] = kept;
                high--;
            }
        }

        void findPieces(PieceTable pieces) {
            if (pieceStamp == pieces.stamp) {
                return;
            }
            pieceStamp = pieces.stamp;
            for (int i = 0; i < seenCount; i++) {
                single[i] = pieces.indexOf(seenSigns[i]);
                pair[i] = i + 1 < seenCount ? pieces.indexOf(pieceAt(i, 2)) : NONE;
            }
        }

        /** The piece of one sign or two at a seen place, as the document tells it. */
        int pieceAt(int i, int signCount) {
            return signCount == 1 ? seenAt(i) : 256 * seenAt(i) + seenAt(i + 1);
        }

        /** NONE when the piece at a seen place is in no confusion. */
        int pieceIndexAt(int i, int signCount) {
            if (i < 0 || i >= seenCount) {
                return NONE;
            }
            return signCount == 1 ? single[i] : pair[i];
        }

        boolean isSeenAs(Text other) {
            if (seenCount != other.seenCount) {
                return false;
            }
            for (int i = 0; i < seenCount; i++) {
                if (seenSigns[i] != other.seenAt(i)) {
                    return false;
                }
            }
            return true;
        }

        int scriptBits(SignTable signs) {
            int bits = 0;
            for (int i = 0; i < seenCount; i++) {
                bits |= 1 << signs.scriptOf(seenSigns[i]);
            }
            return bits & SET_BITS;
        }

        boolean has(int how, SignTable signs) {
            for (int i = 0; i < length; i++) {
                if (signs.howOf(told[i]) == how) {
                    return true;
                }
            }
            return false;
        }

        boolean isPadded(SignTable signs) {
            return length > 0
                && (signs.howOf(told[0]) == HIDDEN || signs.howOf(told[length - 1]) == HIDDEN);
        }
    }

    /** Finds how far one text is from another. Both must have looked at the tables as they are. */
    private static final class Measure {
        private static final int STRIDE = MOST_SIGNS + 1;
        /** The shapes of a step, in the order in which ways of one cost are told: its signs of x, then of y. */
        private static final int[] X_SIGNS = {1, 1, 2, 2};
        private static final int[] Y_SIGNS = {1, 2, 1, 2};
        private static final int SHAPES = 4;

        private final PieceTable pieces;
        /** By a place of x and a place of y: the least cost of what stands from there to both ends. */
        private final int[] rest;

        Measure(PieceTable pieces) {
            this.pieces = pieces;
            rest = new int[STRIDE * STRIDE];
        }

        /** NONE when there is no way, or it costs more than the limit. */
        int leastWithin(Text x, Text y, int limit) {
            int xLength = x.seenCount;
            int yLength = y.seenCount;
            if (xLength > 2 * yLength || yLength > 2 * xLength) {
                return NONE;
            }
            Arrays.fill(rest, xLength * STRIDE, xLength * STRIDE + yLength + 1, FAR);
            rest[xLength * STRIDE + yLength] = 0;
            int behind = 0;
            for (int i = xLength - 1; i >= 0; i--) {
                int least = fillRow(x, i, y);
                // a step covers two rows at most, so a way has a place in one of any two
                if (least > limit && behind > limit) {
                    return NONE;
                }
                behind = least;
            }
            return rest[0] <= limit ? rest[0] : NONE;
        }

        /** Answers the least cost of the row. Only places that steps can join to both ends are filled. */
        private int fillRow(Text x, int i, Text y) {
            int yLength = y.seenCount;
            int ahead = x.seenCount - i;
            int low = Math.max((i + 1) / 2, yLength - 2 * ahead);
            int high = Math.min(2 * i, yLength - (ahead + 1) / 2);
            Arrays.fill(rest, i * STRIDE, i * STRIDE + yLength + 1, FAR);
            int leastOfRow = FAR;
            for (int j = low; j <= high; j++) {
                int least = FAR;
                for (int shape = 0; shape < SHAPES; shape++) {
                    least = Math.min(least, costBy(shape, x, i, y, j));
                }
                rest[i * STRIDE + j] = least;
                leastOfRow = Math.min(leastOfRow, least);
            }
            return leastOfRow;
        }

        /** The cost from two places to the ends when the first step has this shape; FAR or more: no such way. */
        private int costBy(int shape, Text x, int i, Text y, int j) {
            int xSigns = X_SIGNS[shape];
            int ySigns = Y_SIGNS[shape];
            if (i + xSigns > x.seenCount || j + ySigns > y.seenCount) {
                return FAR;
            }
            int behind = rest[(i + xSigns) * STRIDE + j + ySigns];
            // same pieces of two signs are left to two steps of one sign, which are told first
            if (shape == 0 && x.seenAt(i) == y.seenAt(j)) {
                return behind;
            }
            return pieces.leastBetween(x.pieceIndexAt(i, xSigns), y.pieceIndexAt(j, ySigns)) + behind;
        }

        /** Writes the way that leastWithin() has just found between the same texts. */
        void writeWay(Text x, Text y, Way way) {
            way.size = 0;
            int i = 0;
            int j = 0;
            for (int n = 0; n < MOST_SIGNS && i < x.seenCount && j < y.seenCount; n++) {
                int shape = firstShape(x, i, y, j);
                int xSigns = X_SIGNS[shape];
                int ySigns = Y_SIGNS[shape];
                int cost = rest[i * STRIDE + j] - rest[(i + xSigns) * STRIDE + j + ySigns];
                way.add(x.pieceAt(i, xSigns), y.pieceAt(j, ySigns), cost);
                i += xSigns;
                j += ySigns;
            }
        }

        private int firstShape(Text x, int i, Text y, int j) {
            for (int shape = 0; shape < SHAPES; shape++) {
                if (costBy(shape, x, i, y, j) == rest[i * STRIDE + j]) {
                    return shape;
                }
            }
            return 0;
        }
    }

    /** A register's bounds. */
    private static final class Register {
        private int refuses;
        private int warns;
        private boolean strict;

        Register() {
            refuses = 4;
            warns = 8;
            strict = false;
        }
    }

    /** A name that was let in. */
    private static final class Entry {
        private final int register;
        private final int owner;
        private final Text text;
        private boolean stands;

        Entry(int register, int owner, Text text) {
            this.register = register;
            this.owner = owner;
            this.text = text;
            stands = true;
        }
    }

    /** The entries that near() found, the nearest first. */
    private static final class NearList {
        private final int[] numbers;
        private final int[] costs;
        private int size;

        NearList() {
            numbers = new int[MOST_ENTRIES];
            costs = new int[MOST_ENTRIES];
            size = 0;
        }

        /** Entries come by their numbers, so one goes behind those that are as far. */
        void insert(int number, int cost) {
            if (size >= MOST_ENTRIES) {
                return;
            }
            int at = size;
            while (at > 0 && costs[at - 1] > cost) {
                numbers[at] = numbers[at - 1];
                costs[at] = costs[at - 1];
                at--;
            }
            numbers[at] = number;
            costs[at] = cost;
            size++;
        }

        int tell(int i, int what) {
            if (i < 0 || i >= size) {
                return NONE;
            }
            switch (what) {
                case 0: return numbers[i];
                case 1: return costs[i];
                default: return NONE;
            }
        }
    }

    /** The steps of the way that ways() told. */
    private static final class Way {
        private final int[] mine;
        private final int[] others;
        private final int[] costs;
        private int size;

        Way() {
            mine = new int[MOST_SIGNS];
            others = new int[MOST_SIGNS];
            costs = new int[MOST_SIGNS];
            size = 0;
        }

        void add(int piece, int other, int cost) {
            if (size >= MOST_SIGNS) {
                return;
            }
            mine[size] = piece;
            others[size] = other;
            costs[size] = cost;
            size++;
        }

        int tell(int i, int what) {
            if (i < 0 || i >= size) {
                return NONE;
            }
            switch (what) {
                case 0: return mine[i];
                case 1: return others[i];
                case 2: return costs[i];
                default: return NONE;
            }
        }
    }

    /** The pairs that likes() found: all are counted, the first ones kept. */
    private static final class PairList {
        /** Both entries and the cost in one number each: none of the three is above 200. */
        private final int[] packed;
        private int total;

        PairList() {
            packed = new int[MOST_TOLD_PAIRS];
            total = 0;
        }

        void add(int lesser, int greater, int cost) {
            if (total < MOST_TOLD_PAIRS) {
                packed[total] = lesser << 16 | greater << 8 | cost;
            }
            total++;
        }

        int tell(int i, int what) {
            if (i < 0 || i >= total || i >= MOST_TOLD_PAIRS) {
                return NONE;
            }
            switch (what) {
                case 0: return packed[i] >> 16;
                case 1: return packed[i] >> 8 & 255;
                case 2: return packed[i] & 255;
                default: return NONE;
            }
        }
    }
}
