import java.lang.reflect.InvocationTargetException;
import java.lang.reflect.Method;
import java.util.Arrays;
import java.util.Comparator;
import java.util.Map;
import java.util.Random;
import java.util.Set;
import java.util.TreeMap;
import java.util.TreeSet;

/**
 * Any calls with any arguments in any state: none throws, far behind the 512th call either (LANGUAGE.md, rule 7), and
 * up to the 512th each answers below 0 only what the document lets it answer there.
 */
public final class AnyCallsTest {
    private static final int OBJECTS = 3000;
    private static final int LONG_OBJECTS = 20;
    private static final int PROMISED_CALLS = 512;
    private static final int LONG_CALLS = 20_000;
    private static final int[] ODD = {
        Integer.MIN_VALUE, Integer.MIN_VALUE + 1, -65536, -257, -256, -129, -128, -20, -4, -3, -2, -1, 0, 126, 127, 128,
        199, 200, 201, 255, 256, 257, 999, 1000, 1001, 65535, 65536, 1 << 24, Integer.MAX_VALUE - 1, Integer.MAX_VALUE,
    };
    /** By a call: what it may answer below 0. */
    private static final Map<String, Set<Integer>> BELOW = Map.ofEntries(
        Map.entry("feed", Set.of(-3)), Map.entry("end", Set.of(-1)), Map.entry("script", Set.of(-2)),
        Map.entry("seen", Set.of(-2)), Map.entry("confuse", Set.of(-1, -2, -3)), Map.entry("chain", Set.of(-1, -2)),
        Map.entry("allow", Set.of(-2, -3)), Map.entry("name", Set.of(-1)), Map.entry("fault", Set.of(-1)),
        Map.entry("about", Set.of(-1)), Map.entry("rule", Set.of(-2)), Map.entry("ask", Set.of(-1, -2)),
        Map.entry("enter", Set.of(-1, -2, -3, -12, -13)), Map.entry("strike", Set.of(-2)),
        Map.entry("entry", Set.of(-1)), Map.entry("far", Set.of(-1, -2)), Map.entry("near", Set.of(-1, -2)),
        Map.entry("nearest", Set.of(-1)), Map.entry("ways", Set.of(-1, -2)), Map.entry("way", Set.of(-1)),
        Map.entry("likes", Set.of(-2)), Map.entry("like", Set.of(-1)), Map.entry("count", Set.of(-1)));

    private static final Map<String, Set<Integer>> met = new TreeMap<>();

    private AnyCallsTest() {
    }

    public static void main(String[] args) throws IllegalAccessException {
        Method[] calls = NameGuard.class.getDeclaredMethods();
        calls = Arrays.stream(calls).filter(call -> BELOW.containsKey(call.getName())).toArray(Method[]::new);
        // the machine tells them in any order, and a seed should mean the same calls each time
        Arrays.sort(calls, Comparator.comparing(Method::getName));
        Check.due("calls", calls.length, BELOW.size());
        for (int seed = 0; seed < OBJECTS; seed++) {
            play(calls, seed, PROMISED_CALLS);
        }
        for (int seed = OBJECTS; seed < OBJECTS + LONG_OBJECTS; seed++) {
            play(calls, seed, LONG_CALLS);
        }
        fillUp();
        for (String call : BELOW.keySet()) {
            Check.dueText("met below 0 of " + call, new TreeSet<>(met.getOrDefault(call, Set.of())).toString(),
                new TreeSet<>(BELOW.get(call)).toString());
        }
        Check.close("AnyCallsTest");
    }

    private static void play(Method[] calls, int seed, int length) throws IllegalAccessException {
        Random chance = new Random(seed);
        NameGuard x = new NameGuard();
        int wild = 2 + chance.nextInt(30);
        Method favoured = calls[chance.nextInt(calls.length)];
        for (int n = 0; n < length; n++) {
            Method call = chance.nextInt(4) == 0 ? favoured : calls[chance.nextInt(calls.length)];
            Object[] with = arguments(call, chance, wild);
            try {
                int answer = (Integer) call.invoke(x, with);
                if (n < PROMISED_CALLS) {
                    meet(call.getName(), answer, seed, with);
                }
            } catch (InvocationTargetException thrown) {
                Check.dueText("seed " + seed + ", " + call.getName() + Arrays.toString(with),
                    thrown.getCause().toString(), "");
                return;
            }
        }
    }

    private static void meet(String call, int answer, int seed, Object[] with) {
        if (answer < 0) {
            Check.due("seed " + seed + ", " + call + Arrays.toString(with) + " may answer " + answer,
                BELOW.get(call).contains(answer) ? 1 : 0, 1);
            met.computeIfAbsent(call, key -> new TreeSet<>()).add(answer);
        }
    }

    private static Object[] arguments(Method call, Random chance, int wild) {
        Object[] with = new Object[call.getParameterCount()];
        for (int i = 0; i < with.length; i++) {
            if (call.getParameterTypes()[i] == boolean.class) {
                with[i] = chance.nextBoolean();
            } else if (chance.nextInt(wild) == 0) {
                with[i] = chance.nextBoolean() ? ODD[chance.nextInt(ODD.length)] : chance.nextInt();
            } else {
                with[i] = likely(call.getName(), i, chance);
            }
        }
        return with;
    }

    private static int likely(String call, int i, Random chance) {
        switch (call) {
            case "feed": return sign(chance) << 24 | sign(chance) << 16 | sign(chance) << 8 | sign(chance);
            case "end": return chance.nextInt(41);
            case "script": return i == 0 ? sign(chance) : chance.nextInt(8);
            case "seen": return i == 0 ? sign(chance) : chance.nextInt(3);
            case "confuse": case "chain": return i == 2 ? chance.nextInt(21)
                : chance.nextBoolean() ? sign(chance) : 256 * sign(chance) + sign(chance);
            case "allow": return 2 * chance.nextInt(128);
            case "ask": case "enter": return i == 0 ? chance.nextInt(4) : chance.nextInt(32);
            case "near": return i == 0 ? chance.nextInt(4) : chance.nextInt(201);
            case "rule": return i == 0 ? chance.nextInt(4) : i == 1 ? chance.nextInt(50) : 50 + chance.nextInt(150);
            default: return chance.nextInt(chance.nextBoolean() ? 5 : 40);
        }
    }

    private static int sign(Random chance) {
        return 'a' + chance.nextInt(6);
    }

    /** The answer FULL of enter() takes more than chance brings within 512 calls. */
    private static void fillUp() {
        NameGuard x = new NameGuard();
        for (int n = 0; n <= 50; n++) {
            x.feed(0x61616161, 0x61616161, 0x61616161, 0x61616161, 0x61616161 + 256 * (n / 26) + n % 26);
            x.name();
            for (int r = 0; r < 4; r++) {
                meet("enter", x.enter(r, 0), -1, new Object[] {r, 0});
            }
        }
        Check.due("entries", x.count(2), 200);
    }
}
