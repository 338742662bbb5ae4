import java.lang.reflect.InvocationTargetException;
import java.lang.reflect.Method;
import java.lang.reflect.Modifier;
import java.util.Arrays;
import java.util.Comparator;

/** Any calls with any arguments: none throws, what is refused changes nothing, the same calls answer the same. */
public final class AnyCallsTest {
    private static long seed = 1700L;

    private static int dice(int n) {
        seed = seed * 6364136223846793005L + 1442695040888963407L;
        return (int) ((seed >>> 33) % n);
    }

    public static void main(String[] args) throws Exception {
        Method[] face = Arrays.stream(ThirtyThreeBelow.class.getDeclaredMethods())
            .filter(m -> Modifier.isPublic(m.getModifiers()))
            .sorted(Comparator.comparing(Method::getName)).toArray(Method[]::new);
        Due.is("methods of the face", face.length, 55);
        for (int run = 0; run < 150; run++) {
            ThirtyThreeBelow x = new ThirtyThreeBelow();
            ThirtyThreeBelow twin = new ThirtyThreeBelow();
            for (int n = 0; n < 512; n++) {
                Method call = face[dice(face.length)];
                Object[] with = arguments(call);
                long before = run % 10 == 0 ? state(x) : 0;
                long answer = answered(call, x, with);
                if (run % 10 == 0 && isRefusal(call, answer)) {
                    Due.is(call.getName() + Arrays.toString(with) + " refused changes", state(x), before);
                }
                Due.is(call.getName() + " again", answered(call, twin, with), answer);
            }
        }
        Due.end();
    }

    private static long answered(Method call, ThirtyThreeBelow x, Object[] with) throws Exception {
        try {
            return ((Number) call.invoke(x, with)).longValue();
        } catch (InvocationTargetException e) {
            Due.so(call.getName() + Arrays.toString(with) + " threw " + e.getCause(), false);
            return 0;
        }
    }

    private static Object[] arguments(Method call) {
        Class<?>[] types = call.getParameterTypes();
        Object[] with = new Object[types.length];
        for (int i = 0; i < types.length; i++) {
            int v = number(call.getName(), i);
            with[i] = types[i] == long.class ? (Object) (long) v : (Object) v;
        }
        return with;
    }

    /** Mostly a number that the call can use, so that refusals and deeds both come. */
    private static int number(String name, int place) {
        int[] odd = {-1, 0, 1, 61, 120, 1699, 1700, Integer.MIN_VALUE, Integer.MAX_VALUE, Integer.MAX_VALUE - 1, -2};
        if (dice(12) == 0) {
            return odd[dice(odd.length)];
        }
        switch (name + place) {
            case "hard0": case "open0": case "ofCell0": case "move0": case "old1": return 100 * dice(32) + 1 + dice(60);
            case "hole0": return 2 + dice(4);
            case "hole1": return 100 * dice(32) + 1 + dice(99);
            case "shelter0": case "map0": return 100 * dice(5) + 20 + dice(12);
            case "shelter1": case "map1": return 1 + dice(6);
            case "man0": case "last0": case "best0": return dice(1000);
            case "man1": return dice(100);
            case "speed1": return 10 + dice(51);
            case "yard1": return dice(5) - 2;
            case "feed0": return 1 + dice(4);
            case "feed1": return "1h+;2s?(3*f)-n!k%9<t/d".charAt(dice(22)) | "+1|2&h;s=1?k-3*n".charAt(dice(16)) << 8 | '+' << 16 | '7' << 24;
            case "text0": case "inForce0": case "says0": return 10 * dice(2) + dice(3);
            case "text1": case "inForce1": case "inForce2": case "breaks1": case "move1": return dice(1700);
            case "hours0": return 1 + dice(8);
            case "spoons0": return dice(10000);
            case "down1": return dice(2) == 0 ? 10 * (1 + dice(999)) : 11 + dice(9);
            case "need0": return 101 + dice(899);
            case "need1": return dice(100);
            case "put2": return dice(20000) - 10000;
            default: return dice(10);
        }
    }

    private static boolean isRefusal(Method call, long answer) {
        switch (call.getName()) {
            case "says": case "act": case "element": case "trace": return false;
            case "set": case "ofBody": return answer == ThirtyThreeBelow.VOID;
            default: return answer < 0 && answer > -100;
        }
    }

    private static long mixed(long sum, long v) {
        return (sum ^ v) * 1099511628211L + 7;
    }

    /** All that can be asked without a change. */
    private static long state(ThirtyThreeBelow x) {
        long sum = 1;
        for (int cell = 0; cell < 3200; cell++) {
            sum = mixed(mixed(sum, x.ofCell(cell, 0)), x.ofCell(cell, 1));
        }
        for (int body = 0; body < 120; body++) {
            for (int what = 0; what < 8; what++) {
                sum = mixed(sum, x.ofBody(body, what));
            }
        }
        for (int hole = 0; hole < 30; hole++) {
            for (int yard = 1; yard <= 9; yard++) {
                sum = mixed(mixed(mixed(sum, x.met(hole, yard)), x.canBe(hole, yard, 0)), x.canBe(hole, yard, 1));
            }
        }
        for (int n = 0; n < 12; n++) {
            sum = mixed(mixed(mixed(mixed(sum, x.count(n)), x.wrong(n)), x.known(n)), x.below(n));
            sum = mixed(mixed(mixed(sum, x.ordered(n)), x.up(n, 0)), x.up(n, 1));
            sum = mixed(mixed(mixed(sum, x.aimedAt(n, 0)), x.aimedAt(n, 1)), x.trace(n));
            sum = mixed(mixed(mixed(sum, x.watched(n, 0)), x.watched(n, 1)), x.watched(n, 2));
            sum = mixed(mixed(mixed(sum, x.inForce(n, 1699, 1699)), x.inForce(n + 10, 1699, 1699)), x.race(n, 60, 9));
            sum = mixed(mixed(sum, x.taken(n, 0)), x.last(n, 1));
        }
        for (int shelf = 0; shelf < 6; shelf++) {
            for (int i = 0; i < 60; i++) {
                sum = mixed(sum, x.element(shelf, i));
            }
        }
        return sum;
    }
}
