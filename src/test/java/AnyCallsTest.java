import java.lang.reflect.InvocationTargetException;
import java.lang.reflect.Method;
import java.lang.reflect.Modifier;
import java.util.Arrays;
import java.util.Comparator;

/** Any calls with any arguments: none throws, what is refused changes nothing, the same calls answer the same. */
public final class AnyCallsTest {
    private static long seed = 1700L;

    private static int dice(int n) {
        seed = seed * 6364136223846793005L + 1442695040888963407L;
        return (int) ((seed >>> 33) % n);
    }

    public static void main(String[] args) throws Exception {
        Method[] face = Arrays.stream(ThirtyThreeBelow.class.getDeclaredMethods())
            .filter(m -> Modifier.isPublic(m.getModifiers()))
            .sorted(Comparator.comparing(Method::getName)).toArray(Method[]::new);
        Due.is("methods of the face", face.length, 55);
        for (int run = 0; run < 150; run++) {
            twins(face);
            withoutTheRefused(face);
        }
        Due.end();
    }

    private static void twins(Method[] face) throws Exception {
        ThirtyThreeBelow x = new ThirtyThreeBelow();
        ThirtyThreeBelow twin = new ThirtyThreeBelow();
        for (int n = 0; n < 512; n++) {
            Method call = face[dice(face.length)];
            Object[] with = arguments(call);
            long answer = answered(call, x, with);
            Due.is(call.getName() + " again", answered(call, twin, with), answer);
        }
    }

    /** An object that never heard the refused calls shows the same. */
    private static void withoutTheRefused(Method[] face) throws Exception {
        ThirtyThreeBelow x = new ThirtyThreeBelow();
        ThirtyThreeBelow spared = new ThirtyThreeBelow();
        StringBuilder refused = new StringBuilder();
        for (int n = 0; n < 180; n++) {
            Method call = face[dice(face.length)];
            Object[] with = arguments(call);
            long answer = answered(call, x, with);
            if (isRefusal(call, answer)) {
                refused.append(call.getName()).append(Arrays.toString(with)).append(' ');
            } else {
                Due.is(call.getName() + Arrays.toString(with) + " without the refused", answered(call, spared, with), answer);
            }
        }
        Due.same("after " + refused, Camp.shown(x), Camp.shown(spared));
    }

    private static long answered(Method call, ThirtyThreeBelow x, Object[] with) throws Exception {
        try {
            return ((Number) call.invoke(x, with)).longValue();
        } catch (InvocationTargetException e) {
            Due.so(call.getName() + Arrays.toString(with) + " threw " + e.getCause(), false);
            return 0;
        }
    }

    private static Object[] arguments(Method call) {
        Class<?>[] types = call.getParameterTypes();
        Object[] with = new Object[types.length];
        for (int i = 0; i < types.length; i++) {
            int v = number(call.getName(), i);
            with[i] = types[i] == long.class ? (Object) (long) v : (Object) v;
        }
        return with;
    }

    /** Mostly a number that the call can use, so that refusals and deeds both come. */
    private static int number(String name, int place) {
        int[] odd = {-1, 0, 1, 61, 120, 1699, 1700, Integer.MIN_VALUE, Integer.MAX_VALUE, Integer.MAX_VALUE - 1, -2};
        if (dice(12) == 0) {
            return odd[dice(odd.length)];
        }
        switch (name + place) {
            case "hard0": case "open0": case "ofCell0": case "move0": case "old1": return 100 * dice(32) + 1 + dice(60);
            case "hole0": return 2 + dice(4);
            case "hole1": return 100 * dice(32) + 1 + dice(99);
            case "shelter0": case "map0": return 100 * dice(5) + 20 + dice(12);
            case "shelter1": case "map1": return 1 + dice(6);
            case "man0": case "last0": case "best0": return dice(1000);
            case "man1": return dice(100);
            case "speed1": return 10 + dice(51);
            case "yard1": return dice(5) - 2;
            case "feed0": return 1 + dice(4);
            case "feed1": return "1h+;2s?(3*f)-n!k%9<t/d".charAt(dice(22)) | "+1|2&h;s=1?k-3*n".charAt(dice(16)) << 8 | '+' << 16 | '7' << 24;
            case "text0": case "inForce0": case "says0": return 10 * dice(2) + dice(3);
            case "text1": case "inForce1": case "inForce2": case "breaks1": case "move1": return dice(1700);
            case "hours0": return 1 + dice(8);
            case "spoons0": return dice(10000);
            case "down1": return dice(2) == 0 ? 10 * (1 + dice(999)) : 11 + dice(9);
            case "need0": return 101 + dice(899);
            case "need1": return dice(100);
            case "put2": return dice(20000) - 10000;
            default: return dice(10);
        }
    }

    /** What is no ACT takes THE TRACE away, so it is none of these. */
    private static boolean isRefusal(Method call, long answer) {
        switch (call.getName()) {
            case "act": return false;
            case "set": case "ofBody": case "says": return answer == ThirtyThreeBelow.VOID;
            case "element": return answer == Long.MIN_VALUE;
            default: return answer < 0 && answer > -100;
        }
    }
}
