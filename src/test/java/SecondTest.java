import java.lang.reflect.InvocationTargetException;
import java.lang.reflect.Method;
import java.lang.reflect.Modifier;
import java.util.Arrays;
import java.util.Comparator;

/** All promises: random runs of at most 512 calls, each answer as the second working of the document gives it. */
public final class SecondTest {
    private static final int RUNS = 1500;
    private static final int[] ODD = {-2, -1, 0, 1, 2, 3, 4, 5, 6, 7, 8, 9, 10, 11, 31, 32, 47, 48, 49, 59, 60, 61, 99, 100, 101, 119,
        120, 160, 161, 199, 200, 999, 1000, 1698, 1699, 1700, 3101, 3131, 3160, 3161, 3199, 3200, 9990, 9999, 10000,
        Integer.MIN_VALUE, Integer.MAX_VALUE};
    private static Method[] face;
    private static Method[] twins;
    private static long seed;
    private static String pending = "";
    private static ThirtyThreeBelow first;
    private static Second second;
    private static final StringBuilder said = new StringBuilder();

    private static int dice(int n) {
        seed = seed * 6364136223846793005L + 1442695040888963407L;
        return (int) ((seed >>> 33) % n);
    }

    public static void main(String[] args) throws Exception {
        face = Arrays.stream(ThirtyThreeBelow.class.getDeclaredMethods())
            .filter(m -> Modifier.isPublic(m.getModifiers()))
            .sorted(Comparator.comparing(Method::getName)).toArray(Method[]::new);
        twins = new Method[face.length];
        for (int n = 0; n < face.length; n++) {
            twins[n] = Second.class.getDeclaredMethod(face[n].getName(), face[n].getParameterTypes());
        }
        int from = args.length > 0 ? Integer.parseInt(args[0]) : 0;
        int runs = args.length > 1 ? Integer.parseInt(args[1]) : RUNS;
        for (int run = from; run < from + runs; run++) {
            seed = 7919L * run + 33;
            random(run);
        }
        Due.end();
    }

    private static void random(int run) throws Exception {
        first = new ThirtyThreeBelow();
        second = new Second();
        pending = "";
        said.setLength(0);
        if (run % 4 > 0) {
            begun();
        }
        for (int n = run % 16 == 5 ? 96 + dice(24) : 0; n > 0; n--) {
            compared("crowd", dice(3) > 0 ? "man" : "hole", dice(3) > 0 ? 2 + dice(4) : dice(1000), 1 + dice(99));
        }
        int[] weights = weights();
        int calls = run % 3 == 0 ? 512 - second.bodies.size() - 60 : 200;
        for (int n = 0; n < calls; n++) {
            String name = face[weighed(weights)].getName();
            if (name.equals("text") && (!pending.isEmpty() || second.tape.length() == 0) && dice(8) > 0) {
                name = "feed";
            }
            if (!compared("run " + run, name, arguments(name))) {
                return;
            }
        }
    }

    /** Holes above a shelter, some of which are soon THROUGH, men and rows: what most calls want. */
    private static void begun() throws Exception {
        int depth = 1 + dice(4);
        compared("begin", "shelter", 100 * dice(16) + 16 + dice(16), depth);
        for (int n = 0; n < 4; n++) {
            compared("begin", "hole", 2 + (n + dice(2)) % 4, 100 * (10 + dice(12)) + 1 + dice(99));
            compared("begin", "man", dice(1000), dice(100));
        }
        for (int hole = 1; hole <= 7; hole += 2) {
            for (int y = dice(3); y <= depth; y++) {
                compared("begin", "yard", hole, dice(5) - 2);
            }
            compared("begin", "set", dice(3), hole);
            compared("begin", "hours", 1 + dice(6));
        }
        compared("begin", "row", 0, 3 + dice(2), 1 + dice(7));
        compared("begin", "map", 100 * dice(16) + 16 + dice(16), depth);
    }

    private static boolean compared(String run, String name, Object... with) throws Exception {
        int which = 0;
        while (!face[which].getName().equals(name)) {
            which++;
        }
        long want = answered(name, twins[which], with);
        long got = ((Number) face[which].invoke(first, with)).longValue();
        String call = name + Arrays.toString(with);
        said.append(call).append(" -> ").append(got).append('\n');
        Due.is(run + ": " + call, got, want);
        if (got != want) {
            System.out.println(said);
        }
        return got == want;
    }

    /** Not all calls in all runs, so that some runs go deep in few things. */
    private static int[] weights() {
        int[] weights = new int[face.length];
        for (int n = 0; n < face.length; n++) {
            int[] some = {0, 1, 1, 2, 6};
            weights[n] = some[dice(some.length)];
            switch (face[n].getName()) {
                case "hours": case "man": case "hole": case "text": case "feed": weights[n] += 2; break;
                case "yard": case "set": weights[n] += 4; break;
                case "shelter": weights[n] += 1; break;
                default: break;
            }
        }
        return weights;
    }

    private static int weighed(int[] weights) {
        int left = dice(Arrays.stream(weights).sum());
        int which = 0;
        while (left >= weights[which]) {
            left -= weights[which];
            which++;
        }
        return which;
    }

    private static long answered(String name, Method twin, Object[] with) throws Exception {
        try {
            return ((Number) twin.invoke(second, with)).longValue();
        } catch (InvocationTargetException e) {
            if (!(e.getCause() instanceof Second.Refused refused)) {
                throw e;
            }
            if (name.equals("element")) {
                return Long.MIN_VALUE;
            }
            boolean isVoid = name.equals("set") || name.equals("says") || name.equals("ofBody");
            return isVoid ? Second.VOID : refused.number;
        }
    }

    private static Object[] arguments(String name) {
        Class<?>[] types = Arrays.stream(face).filter(m -> m.getName().equals(name)).findFirst().orElseThrow().getParameterTypes();
        Object[] with = new Object[types.length];
        int odd = dice(8) == 0 ? dice(types.length + 1) : -1;
        for (int i = 0; i < types.length; i++) {
            int v = i == odd ? ODD[dice(ODD.length)] : usual(name + i);
            with[i] = types[i] == long.class ? (Object) (dice(9) == 0 ? (long) v << 31 : (long) v) : (Object) v;
        }
        if (name.equals("feed") && odd < 0) {
            fedNext(with);
        }
        if (name.equals("says") && odd < 0 && (Integer) with[0] % 10 == 2) {
            with[1] = -1;
        }
        return with;
    }

    private static void fedNext(Object[] with) {
        if (pending.isEmpty()) {
            do {
                pending = TextsTest.madeText();
            } while (pending.length() > 24);
        }
        int n = Math.min(pending.length(), 1 + dice(4));
        int v = dice(256) << 24;
        for (int k = n - 1; k >= 0; k--) {
            v = v << 8 | pending.charAt(k);
        }
        pending = pending.substring(n);
        with[0] = n;
        with[1] = v;
    }

    private static int bodyOf(int... kinds) {
        int[] found = second.bodies.stream().filter(one -> Arrays.stream(kinds).anyMatch(k -> k == one.kind))
            .mapToInt(one -> one.number).toArray();
        return found.length == 0 ? dice(4) : found[dice(Math.min(found.length, 6))];
    }

    private static int hourNear() {
        return dice(3) == 0 ? dice(1700) : Math.min(1699, Math.max(0, second.hour + dice(12) - 2));
    }

    private static int boredYard() {
        return dice(4) == 0 ? 1 + dice(60) : 1 + dice(6);
    }

    private static int usual(String argument) {
        switch (argument) {
            case "hard0": case "open0": case "ofCell0": case "move0": case "old1": return 100 * dice(32) + 1 + dice(dice(3) == 0 ? 60 : 5);
            case "hard1": case "rock2": case "race2": return 1 + dice(9);
            case "open1": case "ofCell1": case "canBe2": case "aimedAt1": case "up1": case "body0": return dice(2);
            case "hole0": return 2 + dice(4);
            case "hole1": return 100 * dice(32) + 1 + dice(99);
            case "shelter0": case "map0": return 100 * dice(12) + 8 + dice(24);
            case "shelter1": case "map1": return dice(3) == 0 ? 1 + dice(60) : 1 + dice(4);
            case "man0": case "last0": case "best0": return dice(dice(2) == 0 ? 1000 : 90);
            case "man1": return dice(100);
            case "ofBody0": case "act0": return dice(Math.max(1, second.bodies.size()));
            case "ofBody1": return dice(8);
            case "ill0": return bodyOf(7);
            case "says1": return bodyOf(7);
            case "speed0": case "set0": case "breaks0": case "race0": return dice(3);
            case "speed1": return 10 + dice(dice(2) == 0 ? 10 : 51);
            case "set1": return dice(9) == 0 ? -1 : bodyOf(2, 3, 4, 5);
            case "breaks1": return Math.min(1699, second.hour + dice(6));
            case "yard0": case "met0": case "canBe0": case "log0": return bodyOf(2, 3, 4, 5);
            case "yard1": return dice(5) - 2;
            case "met1": case "canBe1": case "race1": case "aimed1": case "log3": return boredYard();
            case "log1": case "keep0": case "row0": case "put0": case "blank0": case "element0": case "shift0": case "shift2":
            case "taken0": return dice(dice(2) == 0 ? 2 : 6);
            case "log2": return dice(4) - 1;
            case "log4": return 1 + dice(5);
            case "spread0": return dice(9);
            case "old0": case "wrong0": return dice(Math.max(1, second.charts.size()));
            case "known0": return dice(6);
            case "feed0": return 1 + dice(4);
            case "text0": case "inForce0": case "says0": return 10 * dice(2) + dice(3);
            case "text1": return Math.min(1699, second.hour + dice(5));
            case "inForce1": case "inForce2": return hourNear();
            case "hours0": return dice(6) == 0 ? 1 + dice(48) : 1 + dice(4);
            case "spoons0": return dice(dice(2) == 0 ? 10000 : 60);
            case "move1": return Math.min(1699, second.hour + 1 + dice(8));
            case "down0": return bodyOf(3);
            case "down1": return dice(2) == 0 ? 10 * (1 + dice(999)) : 11 + dice(9);
            case "down2": return 1 + dice(9);
            case "need0": return 100 * (1 + dice(9)) + 1 + dice(99);
            case "need1": return dice(dice(2) == 0 ? 100 : 20);
            case "watch0": return 1 + dice(3);
            case "watched0": case "watched1": return dice(3);
            case "aim0": return dice(32);
            case "rock0": case "act1": return dice(4);
            case "rock1": return dice(6);
            case "aimed0": return 1 + dice(4);
            case "aimed2": return 1 + dice(2);
            case "aimedAt0": return dice(2);
            case "capsule0": return bodyOf(4, 5);
            case "raise0": return dice(dice(2) == 0 ? 4 : 200);
            case "act2": return dice(5) == 0 ? Integer.MAX_VALUE - dice(3) : dice(1000) - 500;
            case "keep1": return dice(6) == 0 ? -1 : dice(Math.max(1, second.bodies.size()));
            case "row1": return dice(2) == 0 ? 3 : dice(5);
            case "row2": return dice(7) == 0 ? dice(61) : dice(8);
            case "put1": case "blank1": case "element1": case "shift1": case "shift3": return dice(6);
            case "put2": return dice(3) == 0 ? dice(24000) - 12000 : dice(24) - 12;
            case "taken1": return dice(8);
            case "count0": return dice(12);
            default: return dice(10);
        }
    }
}
