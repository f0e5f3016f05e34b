import java.util.ArrayList;
import java.util.Arrays;
import java.util.Collections;
import java.util.HashMap;
import java.util.List;
import java.util.Map;
import java.util.Random;
import java.util.TreeMap;
import java.util.TreeSet;

/** Long runs of chance calls, each answer held against a slow and plain model of the document. */
public final class RandomRunsTest {
    private static final int NONE = NameGuard.NONE;
    private static final int RANGE = NameGuard.RANGE;
    private static final int FULL = NameGuard.FULL;
    private static final int RUNS = 1500;
    private static final int CROWDED_RUNS = 60;
    private static final int CALLS = 512;
    private static final int[] EDGES = {
        -3, -2, -1, 0, 1, 2, 3, 4, 5, 7, 8, 10, 13, 14, 19, 20, 21, 23, 24, 31, 32, 33, 34, 39, 40, 41, 59, 60, 97,
        126, 127, 128, 199, 200, 201, 254, 255, 256, 999, 1000, 8481, 24929, 32382, 32383, 65536,
        Integer.MAX_VALUE, Integer.MIN_VALUE, Integer.MIN_VALUE + 97,
    };

    private RandomRunsTest() {
    }

    public static void main(String[] args) {
        for (int seed = 1; seed <= RUNS; seed++) {
            new Run(seed).play();
        }
        for (int seed = RUNS + 1; seed <= RUNS + CROWDED_RUNS; seed++) {
            new Run(seed).playCrowded();
        }
        Check.close("RandomRunsTest");
    }

    /** One run of calls on a new object, with the signs, costs and habits that its seed chose. */
    private static final class Run {
        private final int seed;
        private final Random chance;
        private final NameGuard guard = new NameGuard();
        private final Model model = new Model();
        private final String alphabet;
        private final int longest;
        private final int edgesIn;
        private int left = CALLS;

        Run(int seed) {
            this.seed = seed;
            chance = new Random(seed);
            String[] alphabets = {"ab", "abc", "abc-<", "rnmvwl1I", "aAbB01-_<>", "!~az"};
            alphabet = alphabets[chance.nextInt(alphabets.length)];
            int[] lengths = {2, 4, 8, 24, 40};
            longest = lengths[chance.nextInt(lengths.length)];
            int[] rarely = {8, 30, 1000};
            edgesIn = rarely[chance.nextInt(rarely.length)];
        }

        void play() {
            while (left > 0) {
                switch (chance.nextInt(12)) {
                    case 0: case 1: tellName(); break;
                    case 2: case 3: tables(); break;
                    case 4: case 5: case 6: registers(); break;
                    case 7: case 8: measures(); break;
                    case 9: lists(); break;
                    case 10: aboutAll(); break;
                    default: counts(); break;
                }
            }
        }

        /** Many entries ahead of the confusions that make them alike, and as many confusions as there is room for. */
        void playCrowded() {
            int names = 30 + chance.nextInt(60);
            for (int n = 0; n < names; n++) {
                int[] w = new int[5];
                for (int i = 0; i < 20; i++) {
                    w[i / 4] = w[i / 4] << 8 | (chance.nextInt(3) > 0 ? 'a' : 'a' + chance.nextInt(8));
                }
                due("feed", guard.feed(w[0], w[1], w[2], w[3], w[4]), model.feed(w));
                int length = 1 + chance.nextInt(6);
                due("end", guard.end(length), model.end(length));
                due("name", guard.name(), model.name());
                int owner = chance.nextInt(32);
                due("enter", guard.enter(0, owner), model.enter(0, owner));
            }
            for (int n = 0; n < 70; n++) {
                int p = crowdedPiece();
                int q = crowdedPiece();
                int cost = chance.nextInt(21);
                due("confuse", guard.confuse(p, q, cost), model.confuse(p, q, cost));
            }
            for (int what = 0; what < 6; what++) {
                due("count " + what, guard.count(what), model.count(what));
            }
            while (left > 0) {
                lists();
                measures();
                registers();
            }
        }

        private int crowdedPiece() {
            int first = 'a' + chance.nextInt(8);
            return chance.nextBoolean() ? first : 256 * first + 'a' + chance.nextInt(8);
        }

        /** What is answered behind the last call that the document speaks of is free. */
        private void due(String call, int got, int want) {
            left--;
            if (left < 0) {
                return;
            }
            Check.due("seed " + seed + ", " + left + " left: " + call, got, want);
        }

        private int pick(int bound) {
            return chance.nextInt(edgesIn) == 0 ? EDGES[chance.nextInt(EDGES.length)] : chance.nextInt(bound);
        }

        private int sign() {
            return chance.nextInt(edgesIn) == 0
                ? EDGES[chance.nextInt(EDGES.length)] : alphabet.charAt(chance.nextInt(alphabet.length()));
        }

        private int piece() {
            int first = sign();
            return chance.nextInt(3) == 0 ? 256 * first + sign() : first;
        }

        private void tellName() {
            if (chance.nextInt(3) > 0) {
                due("end(0)", guard.end(0), model.end(0));
            }
            int length = chance.nextInt(longest + 1) + (chance.nextInt(edgesIn) == 0 ? chance.nextInt(60) : 0);
            for (int fed = 0; fed < length; fed += 20) {
                int[] w = new int[5];
                for (int i = 0; i < 20; i++) {
                    int b = chance.nextInt(20 * edgesIn) == 0
                        ? chance.nextInt(256) : alphabet.charAt(chance.nextInt(alphabet.length()));
                    w[i / 4] = w[i / 4] << 8 | b;
                }
                due("feed", guard.feed(w[0], w[1], w[2], w[3], w[4]), model.feed(w));
            }
            due("end", guard.end(length), model.end(length));
            due("name", guard.name(), model.name());
            due("fault", guard.fault(0), model.fault(0));
            due("fault", guard.fault(1), model.fault(1));
            int what = pick(3);
            due("fault " + what, guard.fault(what), model.fault(what));
        }

        private void tables() {
            int sign = sign();
            switch (chance.nextInt(edgesIn > 30 ? 6 : 8)) {
                case 0: {
                    int script = pick(8);
                    due("script " + sign + " " + script, guard.script(sign, script), model.script(sign, script));
                    break;
                }
                case 1: {
                    int how = chance.nextInt(3) > 0 ? 0 : pick(3);
                    due("seen " + sign + " " + how, guard.seen(sign, how), model.seen(sign, how));
                    break;
                }
                case 2: {
                    int set = chance.nextInt(2) == 0 ? 2 * pick(128) : pick(256);
                    due("allow " + set, guard.allow(set), model.allow(set));
                    break;
                }
                default: {
                    int p = piece();
                    int q = piece();
                    int cost = chance.nextInt(9) == 0 ? NONE : chance.nextInt(2) == 0 ? pick(3) : pick(21);
                    due("confuse " + p + " " + q + " " + cost, guard.confuse(p, q, cost), model.confuse(p, q, cost));
                    p = piece();
                    due("chain " + p + " " + q, guard.chain(p, q), model.chain(p, q));
                }
            }
        }

        private void registers() {
            int r = chance.nextInt(3) > 0 ? 0 : pick(4);
            int owner = chance.nextInt(3) > 0 ? chance.nextInt(3) : pick(32);
            switch (chance.nextInt(6)) {
                case 0: {
                    int refuses = pick(4);
                    int warns = pick(12);
                    boolean strict = chance.nextInt(4) == 0;
                    due("rule", guard.rule(r, refuses, warns, strict), model.rule(r, refuses, warns, strict));
                    break;
                }
                case 1: {
                    int e = pick(model.entries.size() + 1);
                    if (chance.nextInt(3) == 0) {
                        due("strike " + e, guard.strike(e), model.strike(e));
                    }
                    break;
                }
                case 2:
                    due("ask " + r + " " + owner, guard.ask(r, owner), model.ask(r, owner));
                    break;
                default:
                    due("enter " + r + " " + owner, guard.enter(r, owner), model.enter(r, owner));
            }
        }

        private void measures() {
            int e = pick(model.entries.size() + 1);
            due("far " + e, guard.far(e), model.far(e));
            int size = model.ways(e);
            due("ways " + e, guard.ways(e), size);
            for (int i = 0; i < 4 || i <= size; i++) {
                for (int what = 0; what < 3; what++) {
                    due("way " + i + " " + what, guard.way(i, what), model.way(i, what));
                }
            }
            int i = pick(5);
            int what = pick(4);
            due("way " + i + " " + what, guard.way(i, what), model.way(i, what));
            e = pick(model.entries.size() + 1);
            what = chance.nextInt(2) == 0 ? pick(6) : 20 + pick(5);
            due("entry " + e + " " + what, guard.entry(e, what), model.entry(e, what));
        }

        private void lists() {
            int r = chance.nextInt(3) > 0 ? 0 : pick(4);
            int cost = chance.nextInt(2) == 0 ? pick(10) : pick(201);
            int size = model.near(r, cost);
            due("near " + r + " " + cost, guard.near(r, cost), size);
            for (int n = 0; n < 6; n++) {
                int i = pick(Math.max(1, size + 1));
                int what = pick(2);
                due("nearest " + i + " " + what, guard.nearest(i, what), model.nearest(i, what));
            }
            r = chance.nextInt(3) > 0 ? 0 : pick(4);
            size = model.likes(r);
            due("likes " + r, guard.likes(r), size);
            for (int n = 0; n < 6; n++) {
                int i = pick(Math.max(1, size + 1));
                int what = pick(3);
                due("like " + i + " " + what, guard.like(i, what), model.like(i, what));
            }
        }

        private void aboutAll() {
            for (int what = 0; what < 7; what++) {
                due("about " + what, guard.about(what), model.about(what));
            }
            for (int n = 0; n < 4; n++) {
                int what = chance.nextInt(3) == 0 ? pick(64) : 20 + pick(longest + 1);
                due("about " + what, guard.about(what), model.about(what));
            }
        }

        private void counts() {
            for (int what = 0; what < 6; what++) {
                due("count " + what, guard.count(what), model.count(what));
            }
            int what = pick(40);
            due("count " + what, guard.count(what), model.count(what));
            int p = piece();
            int q = piece();
            due("chain " + p + " " + q, guard.chain(p, q), model.chain(p, q));
        }
    }

    /** The document, written as plainly as can be, with no regard for speed. */
    private static final class Model {
        private final List<Integer> tape = new ArrayList<>();
        private final Map<Integer, Integer> scripts = new HashMap<>();
        private final Map<Integer, Integer> hows = new HashMap<>();
        private final TreeMap<String, Integer> confusions = new TreeMap<>();
        private Map<Integer, Map<Integer, Integer>> chains = new HashMap<>();
        private final TreeSet<Integer> sets = new TreeSet<>();
        private String theName = null;
        private int faultKind = 0;
        private int faultPlace = NONE;
        private final int[][] rules = {{4, 8, 0}, {4, 8, 0}, {4, 8, 0}, {4, 8, 0}};
        private final List<Object[]> entries = new ArrayList<>();
        private final TreeSet<Integer> struck = new TreeSet<>();
        private List<int[]> nearOnes = new ArrayList<>();
        private List<int[]> toldWay = new ArrayList<>();
        private List<int[]> pairs = new ArrayList<>();

        Model() {
            for (int sign = 33; sign <= 126; sign++) {
                scripts.put(sign, Character.isLetter(sign) ? 1 : 0);
                hows.put(sign, 0);
            }
        }

        int feed(int[] words) {
            if (tape.size() + 20 > 200) {
                return FULL;
            }
            for (int word : words) {
                for (byte b : java.nio.ByteBuffer.allocate(4).putInt(word).array()) {
                    tape.add(b & 255);
                }
            }
            return tape.size();
        }

        int end(int n) {
            if (n < 0 || n > tape.size()) {
                return NONE;
            }
            tape.subList(n, tape.size()).clear();
            return n;
        }

        private boolean isSign(int n) {
            return scripts.containsKey(n);
        }

        private boolean isPiece(int n) {
            return isSign(n) || n > 255 && isSign(n / 256) && isSign(n % 256);
        }

        int script(int sign, int script) {
            return isSign(sign) && script >= 0 && script <= 7 ? scripts.put(sign, script) : RANGE;
        }

        int seen(int sign, int how) {
            return isSign(sign) && how >= 0 && how <= 2 ? hows.put(sign, how) : RANGE;
        }

        int confuse(int p, int q, int cost) {
            if (!isPiece(p) || !isPiece(q) || p == q || cost < -1 || cost > 20) {
                return RANGE;
            }
            String key = Math.min(p, q) + " " + Math.max(p, q);
            int old = confusions.getOrDefault(key, NONE);
            if (cost == NONE) {
                confusions.remove(key);
            } else if (old == NONE && confusions.size() == 60) {
                return FULL;
            } else {
                confusions.put(key, cost);
            }
            chains = new HashMap<>();
            return old;
        }

        /** All pieces that a chain joins to p, by going over all confusions until nothing changes. */
        private Map<Integer, Integer> chainsFrom(int p) {
            Map<Integer, Integer> known = chains.get(p);
            if (known != null) {
                return known;
            }
            Map<Integer, Integer> costs = new HashMap<>();
            costs.put(p, 0);
            boolean changed = true;
            while (changed) {
                changed = false;
                for (Map.Entry<String, Integer> c : confusions.entrySet()) {
                    String[] ends = c.getKey().split(" ");
                    int a = Integer.parseInt(ends[0]);
                    int b = Integer.parseInt(ends[1]);
                    changed |= shorten(costs, a, b, c.getValue());
                    changed |= shorten(costs, b, a, c.getValue());
                }
            }
            chains.put(p, costs);
            return costs;
        }

        private boolean shorten(Map<Integer, Integer> costs, int a, int b, int cost) {
            if (!costs.containsKey(a) || costs.getOrDefault(b, Integer.MAX_VALUE) <= costs.get(a) + cost) {
                return false;
            }
            costs.put(b, costs.get(a) + cost);
            return true;
        }

        int chain(int p, int q) {
            return isPiece(p) && isPiece(q) ? chainsFrom(p).getOrDefault(q, NONE) : RANGE;
        }

        int allow(int set) {
            if (set < 2 || set > 254 || set % 2 == 1) {
                return RANGE;
            }
            if (!sets.contains(set) && sets.size() == 8) {
                return FULL;
            }
            sets.add(set);
            return sets.size();
        }

        private String seenOf(String text) {
            List<StringBuilder> parts = new ArrayList<>();
            parts.add(new StringBuilder());
            for (char c : text.toCharArray()) {
                if (hows.get((int) c) == 2) {
                    parts.add(new StringBuilder());
                } else if (hows.get((int) c) == 0) {
                    parts.get(parts.size() - 1).append(c);
                }
            }
            StringBuilder out = new StringBuilder();
            for (int i = 0; i < parts.size(); i++) {
                out.append(i % 2 == 0 ? parts.get(i) : parts.get(i).reverse());
            }
            return out.toString();
        }

        int name() {
            StringBuilder text = new StringBuilder();
            for (int b : tape) {
                text.append((char) b);
            }
            tape.clear();
            faultKind = 0;
            faultPlace = NONE;
            for (int i = 0; i < text.length() && faultKind == 0; i++) {
                faultKind = !isSign(text.charAt(i)) ? 1 : i == 40 ? 2 : 0;
                faultPlace = faultKind != 0 ? i : NONE;
            }
            if (faultKind != 0) {
                return NONE;
            }
            int size = seenOf(text.toString()).length();
            if (size == 0 || size > 24) {
                faultKind = size == 0 ? 3 : 4;
                faultPlace = text.length();
                return NONE;
            }
            theName = text.toString();
            return size;
        }

        int fault(int what) {
            return what == 0 ? faultKind : what == 1 ? faultPlace : NONE;
        }

        private int scriptsOf(String text) {
            int bits = 0;
            for (char c : seenOf(text).toCharArray()) {
                bits |= scripts.get((int) c) == 0 ? 0 : 1 << scripts.get((int) c);
            }
            return bits;
        }

        private boolean mixed(String text) {
            int bits = scriptsOf(text);
            return Integer.bitCount(bits) > 1 && sets.stream().noneMatch(set -> (set & bits) == bits);
        }

        private boolean has(String text, int how) {
            return text.chars().anyMatch(c -> hows.get(c) == how);
        }

        int about(int what) {
            if (theName == null) {
                return NONE;
            }
            String seen = seenOf(theName);
            switch (what) {
                case 0: return theName.length();
                case 1: return seen.length();
                case 2: return scriptsOf(theName);
                case 3: return mixed(theName) ? 1 : 0;
                case 4: return has(theName, 1) ? 1 : 0;
                case 5: return has(theName, 2) ? 1 : 0;
                case 6: return has(theName.charAt(0) + theName.substring(theName.length() - 1), 1) ? 1 : 0;
                default: return what >= 20 && what - 20 < seen.length() ? seen.charAt(what - 20) : NONE;
            }
        }

        private boolean isRegister(int r) {
            return r >= 0 && r < 4;
        }

        int rule(int r, int refuses, int warns, boolean strict) {
            if (!isRegister(r) || refuses < 0 || refuses > 200 || warns < 0 || warns > 200 || warns < refuses) {
                return RANGE;
            }
            rules[r] = new int[] {refuses, warns, strict ? 1 : 0};
            return 1;
        }

        private int registerOf(int e) {
            return (Integer) entries.get(e)[0];
        }

        private int ownerOf(int e) {
            return (Integer) entries.get(e)[1];
        }

        private String textOf(int e) {
            return (String) entries.get(e)[2];
        }

        private boolean stands(int e) {
            return e >= 0 && e < entries.size() && !struck.contains(e);
        }

        private List<Integer> standingIn(int r) {
            List<Integer> out = new ArrayList<>();
            for (int e = 0; e < entries.size(); e++) {
                if (stands(e) && registerOf(e) == r) {
                    out.add(e);
                }
            }
            return out;
        }

        int ask(int r, int owner) {
            if (!isRegister(r) || owner < 0 || owner > 31) {
                return RANGE;
            }
            if (theName == null || seenOf(theName).isEmpty()) {
                return NONE;
            }
            boolean refused = rules[r][2] == 1 && mixed(theName);
            boolean warned = false;
            for (int e : standingIn(r)) {
                if (seenOf(textOf(e)).equals(seenOf(theName))) {
                    return 3;
                }
                int cost = cost(theName, textOf(e));
                if (ownerOf(e) != owner && cost != NONE) {
                    refused |= cost <= rules[r][0];
                    warned |= cost <= rules[r][1];
                }
            }
            return refused ? 2 : warned ? 1 : 0;
        }

        int enter(int r, int owner) {
            int answer = ask(r, owner);
            if (answer < 0 || answer > 1) {
                return answer < 0 ? answer : -10 - answer;
            }
            if (entries.size() == 200) {
                return FULL;
            }
            entries.add(new Object[] {r, owner, theName});
            return entries.size() - 1;
        }

        int strike(int e) {
            if (!stands(e)) {
                return RANGE;
            }
            struck.add(e);
            return 1;
        }

        int entry(int e, int what) {
            if (e < 0 || e >= entries.size()) {
                return NONE;
            }
            switch (what) {
                case 0: return registerOf(e);
                case 1: return ownerOf(e);
                case 2: return textOf(e).length();
                case 3: return seenOf(textOf(e)).length();
                case 4: return stands(e) ? 1 : 0;
                default: return what >= 20 && what - 20 < textOf(e).length() ? textOf(e).charAt(what - 20) : NONE;
            }
        }

        private int cost(String x, String y) {
            List<int[]> way = bestWay(x, y);
            return way == null ? NONE : way.stream().mapToInt(step -> step[2]).sum();
        }

        /** Null when there is none. */
        private List<int[]> bestWay(String x, String y) {
            return bestWay(seenOf(x), 0, seenOf(y), 0, new HashMap<>());
        }

        private List<int[]> bestWay(String x, int i, String y, int j, Map<Integer, List<int[]>> known) {
            if (i == x.length() || j == y.length()) {
                return i == x.length() && j == y.length() ? Collections.emptyList() : null;
            }
            int key = 100 * i + j;
            if (known.containsKey(key)) {
                return known.get(key);
            }
            List<int[]> best = null;
            for (int a = 1; a <= 2 && i + a <= x.length(); a++) {
                for (int b = 1; b <= 2 && j + b <= y.length(); b++) {
                    int p = Check.piece(x.substring(i, i + a));
                    int q = Check.piece(y.substring(j, j + b));
                    int cost = chain(p, q);
                    List<int[]> rest = cost == NONE ? null : bestWay(x, i + a, y, j + b, known);
                    if (rest != null) {
                        List<int[]> way = new ArrayList<>();
                        way.add(new int[] {p, q, cost, a, b});
                        way.addAll(rest);
                        best = better(best, way);
                    }
                }
            }
            known.put(key, best);
            return best;
        }

        private static List<int[]> better(List<int[]> one, List<int[]> other) {
            if (one == null) {
                return other;
            }
            int costs = Integer.compare(one.stream().mapToInt(step -> step[2]).sum(),
                other.stream().mapToInt(step -> step[2]).sum());
            for (int i = 0; costs == 0 && i < one.size() && i < other.size(); i++) {
                int[] s = one.get(i);
                int[] t = other.get(i);
                costs = s[3] != t[3] ? Integer.compare(s[3], t[3]) : Integer.compare(s[4], t[4]);
            }
            return costs <= 0 ? one : other;
        }

        int far(int e) {
            return !stands(e) ? RANGE : theName == null ? NONE : cost(theName, textOf(e));
        }

        int near(int r, int cost) {
            if (!isRegister(r) || cost < 0 || cost > 200) {
                return RANGE;
            }
            if (theName == null) {
                return NONE;
            }
            nearOnes = new ArrayList<>();
            for (int e : standingIn(r)) {
                int howFar = cost(theName, textOf(e));
                if (howFar != NONE && howFar <= cost) {
                    nearOnes.add(new int[] {e, howFar});
                }
            }
            nearOnes.sort((a, b) -> a[1] != b[1] ? Integer.compare(a[1], b[1]) : Integer.compare(a[0], b[0]));
            return nearOnes.size();
        }

        private static int told(List<int[]> rows, int i, int what, int whats) {
            return i >= 0 && i < rows.size() && what >= 0 && what < whats ? rows.get(i)[what] : NONE;
        }

        int nearest(int i, int what) {
            return told(nearOnes, i, what, 2);
        }

        int ways(int e) {
            if (!stands(e)) {
                return RANGE;
            }
            List<int[]> way = theName == null ? null : bestWay(theName, textOf(e));
            if (way == null) {
                return NONE;
            }
            toldWay = way;
            return way.size();
        }

        int way(int i, int what) {
            return told(toldWay, i, what, 3);
        }

        int likes(int r) {
            if (!isRegister(r)) {
                return RANGE;
            }
            pairs = new ArrayList<>();
            for (int e : standingIn(r)) {
                for (int f : standingIn(r)) {
                    int cost = e < f && ownerOf(e) != ownerOf(f) ? cost(textOf(e), textOf(f)) : NONE;
                    if (cost != NONE && cost <= rules[r][0]) {
                        pairs.add(new int[] {e, f, cost});
                    }
                }
            }
            return pairs.size();
        }

        int like(int i, int what) {
            return i >= 1000 ? NONE : told(pairs, i, what, 3);
        }

        int count(int what) {
            switch (what) {
                case 0: return confusions.size();
                case 1: return sets.size();
                case 2: return entries.size();
                case 3: return entries.size() - struck.size();
                case 4: return tape.size();
                case 5: return (int) confusions.keySet().stream()
                    .flatMap(key -> Arrays.stream(key.split(" "))).distinct().count();
                default:
            }
            for (int r = 0; r < 4; r++) {
                for (int i = 0; i < 3; i++) {
                    if (what == 10 + 10 * i + r) {
                        return rules[r][i];
                    }
                }
            }
            return NONE;
        }
    }
}
