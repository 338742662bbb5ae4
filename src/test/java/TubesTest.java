/** Promises 32 to 38: tubes, the best order, watches. */
public final class TubesTest {
    private static long seed = 33L;

    public static void main(String[] args) {
        down();
        refusedDown();
        fullWay();
        needs();
        orders();
        ordersOfAll();
        watches();
        watchedOfNone();
        Due.end();
    }

    private static int dice(int n) {
        seed = seed * 6364136223846793005L + 1442695040888963407L;
        return (int) ((seed >>> 33) % n);
    }

    private static ThirtyThreeBelow withTubes() {
        ThirtyThreeBelow x = new ThirtyThreeBelow();
        x.shelter(31, 1);
        Due.throughAtOnce(x, 3, 5);
        Due.throughAtOnce(x, 3, 6);
        x.hole(3, 709);
        return x;
    }

    private static void down() {
        ThirtyThreeBelow x = withTubes();
        Due.is("HOUR", x.count(4), 2);
        Due.is("down", x.down(1, 9990, 9), 11);
        Due.is("behind it", x.down(1, 19, 1), 12);
        Due.is("another TUBE", x.down(2, 10, 1), 3);
        Due.is("on the way", x.count(10), 3);
        Due.is("not yet", x.below(0), 0);
        x.hours(1);
        Due.is("one SPOON", x.below(0), 1);
        Due.is("on the way", x.count(10), 2);
        Due.is("from now on", x.down(2, 19, 2), 5);
        x.hours(7);
        Due.is("one of 9", x.below(9), 1);
        Due.is("not yet", x.below(0), 1);
        x.hours(1);
        Due.is("999 more", x.below(0), 1000);
        x.hours(1);
        Due.is("two of 9", x.below(9), 2);
        Due.is("none of 8", x.below(8), 0);
        x.down(1, 11, 1);
        x.down(1, 12, 5);
        x.down(2, 13, 3);
        x.hours(3);
        Due.is("the third, ahead of the second", x.below(3), 1);
        Due.is("not yet", x.below(2), 0);
        x.hours(3);
        Due.is("the second", x.below(2), 1);
        Due.is("on the way", x.count(10), 0);
        Due.is("below 10", x.below(10), -1);
        Due.is("below -1", x.below(-1), -1);
        x.man(100, 0);
        x.spoons(0);
        x.hours(5);
        x.down(1, 30, 1);
        x.hours(1);
        Due.is("below ahead of the meal", x.count(9), 1);
    }

    private static void refusedDown() {
        ThirtyThreeBelow x = withTubes();
        int shaft = Due.throughAtOnce(x, 4, 8);
        Due.is("not THROUGH", x.down(3, 10, 1), -2);
        Due.is("BAD ahead of NOT", x.down(3, 10, 10), -1);
        Due.is("a SHAFT", x.down(shaft, 10, 1), -1);
        Due.is("the SHELTER", x.down(0, 10, 1), -1);
        Due.is("none", x.down(99, 10, 1), -1);
        Due.is("-1", x.down(-1, 10, 1), -1);
        int[] bad = {0, 1, 9, -10, 21, 29, 99, 10000, 9991, 10001, -11, Integer.MIN_VALUE, Integer.MAX_VALUE};
        for (int what : bad) {
            Due.is("what " + what, x.down(1, what, 1), -1);
        }
        Due.is("hours 0", x.down(1, 10, 0), -1);
        Due.is("hours 10", x.down(1, 10, 10), -1);
        Due.is("nothing is on the way", x.count(10), 0);
        for (int stuff = 1; stuff <= 9; stuff++) {
            Due.is("STUFF", x.down(1, 10 + stuff, 1), 3 + stuff);
        }
        x.hours(9);
        for (int stuff = 1; stuff <= 9; stuff++) {
            Due.is("STUFF " + stuff, x.below(stuff), 1);
        }
    }

    private static void fullWay() {
        ThirtyThreeBelow x = withTubes();
        for (int n = 1; n <= 40; n++) {
            Due.is("down", x.down(1 + n % 2, 20, 1), 2 + (n + 1) / 2);
        }
        Due.is("41", x.down(1, 20, 1), -3);
        Due.is("NOT ahead of FULL", x.down(3, 20, 1), -2);
        Due.is("BAD ahead of FULL", x.down(1, 20, 0), -1);
        x.hours(1);
        Due.is("two came", x.count(10), 38);
        Due.is("SPOONS", x.below(0), 4);
        Due.is("room again", x.down(1, 20, 1), 23);
        x.hours(21);
        Due.is("all", x.below(0), 82);
    }

    private static void needs() {
        ThirtyThreeBelow x = new ThirtyThreeBelow();
        Due.is("none told", x.order(), -1);
        Due.is("none ordered", x.ordered(0), -1);
        int[] bad = {0, 99, 100, 200, 1000, 1001, -101, 900, Integer.MIN_VALUE, Integer.MAX_VALUE};
        for (int what : bad) {
            Due.is("need(" + what + ")", x.need(what, 0), -1);
        }
        Due.is("need -1", x.need(101, -1), -1);
        Due.is("need 100", x.need(101, 100), -1);
        Due.is("still none", x.order(), -1);
        for (int n = 1; n <= 10; n++) {
            Due.is("need", x.need(n % 2 == 0 ? 101 : 999, n % 2 == 0 ? 0 : 99), n);
        }
        Due.is("an 11th", x.need(101, 0), -3);
        Due.is("BAD ahead of FULL", x.need(100, 0), -1);
        Due.is("order", x.order(), 1 + 2 + 3 + 4 + 5);
        int[] want = {1, 3, 5, 7, 9, 0, 2, 4, 6, 8};
        for (int i = 0; i < 10; i++) {
            Due.is("ordered", x.ordered(i), want[i]);
        }
        Due.is("ordered(10)", x.ordered(10), -1);
        Due.is("ordered(-1)", x.ordered(-1), -1);
        Due.is("none are left", x.order(), -1);
        Due.is("the latest one that was not BAD", x.ordered(0), 1);
        Due.is("anew", x.need(101, 0), 1);
        Due.is("not yet ordered", x.ordered(5), 0);
        Due.is("order", x.order(), 1);
        Due.is("ordered", x.ordered(0), 0);
        Due.is("just one", x.ordered(1), -1);
    }

    private static void orders() {
        ThirtyThreeBelow x = new ThirtyThreeBelow();
        x.need(999, 99);
        x.need(101, 99);
        x.need(501, 99);
        Due.is("none late", x.order(), 0);
        for (int i = 0; i < 3; i++) {
            Due.is("the first by places", x.ordered(i), i);
        }
        x.need(201, 0);
        x.need(201, 0);
        Due.is("like ones", x.order(), 6);
        Due.is("the first by places", x.ordered(0), 0);
        x.need(201, 0);
        x.need(202, 0);
        Due.is("the weight", x.order(), 8);
        Due.is("the weightier", x.ordered(0), 1);
    }

    /** Against all orders, of up to six things. */
    private static void ordersOfAll() {
        for (int run = 0; run < 300; run++) {
            ThirtyThreeBelow x = new ThirtyThreeBelow();
            int n = 1 + dice(6);
            int[] hours = new int[n];
            int[] weights = new int[n];
            int[] by = new int[n];
            for (int i = 0; i < n; i++) {
                hours[i] = 1 + dice(run % 3 == 0 ? 2 : 9);
                weights[i] = 1 + dice(run % 3 == 0 ? 2 : 99);
                by[i] = dice(run % 2 == 0 ? 5 : 30);
                x.need(100 * hours[i] + weights[i], by[i]);
            }
            int[] best = new int[n];
            int least = tried(hours, weights, by, new int[n], 0, best, Integer.MAX_VALUE);
            Due.is("order", x.order(), least);
            for (int i = 0; i < n; i++) {
                Due.is("ordered", x.ordered(i), best[i]);
            }
        }
    }

    private static int tried(int[] hours, int[] weights, int[] by, int[] order, int at, int[] best, int least) {
        if (at == order.length) {
            int sum = 0;
            int time = 0;
            for (int i : order) {
                time += hours[i];
                sum += time > by[i] ? weights[i] * (time - by[i]) : 0;
            }
            if (sum < least) {
                System.arraycopy(order, 0, best, 0, at);
                return sum;
            }
            return least;
        }
        int found = least;
        for (int i = 0; i < order.length; i++) {
            boolean free = true;
            for (int k = 0; k < at; k++) {
                free &= order[k] != i;
            }
            if (free) {
                order[at] = i;
                found = tried(hours, weights, by, order, at + 1, best, found);
            }
        }
        return found;
    }

    private static void watches() {
        ThirtyThreeBelow x = new ThirtyThreeBelow();
        x.body(0);
        for (int n = 0; n < 11; n++) {
            x.man(50, n % 4);
        }
        Due.is("all nine places", x.watch(3, 9), 9);
        Due.is("by numbers", x.watched(0, 2), 3);
        Due.is("by numbers", x.watched(1, 0), 4);
        Due.is("by numbers", x.watched(2, 2), 9);
        Due.is("of the first nine", x.watch(3, 1), 5);
        Due.is("the tenth is not asked", x.watched(1, 2), -2);
        Due.is("of the first nine", x.watch(3, 0), 3);
        Due.is("ILL 0", x.watched(0, 1), 5);
        Due.is("ILL 0", x.watched(0, 2), 9);
        Due.is("none last", x.watched(1, 0), -2);
        Due.is("no more ILL than 2", x.watch(2, 2), 6);
        Due.is("by numbers", x.watched(1, 1), 5);
        Due.is("by numbers", x.watched(2, 1), 7);
        Due.is("one place", x.watch(1, 1), 3);
        Due.is("by numbers", x.watched(2, 0), 5);
        Due.is("places 0", x.watch(0, 1), -1);
        Due.is("places 4", x.watch(4, 1), -1);
        Due.is("ill -1", x.watch(1, -1), -1);
        Due.is("ill 10", x.watch(1, 10), -1);
        Due.is("the latest that was not BAD", x.watched(2, 0), 5);
        Due.is("place 1 is not there", x.watched(0, 1), -1);
        Due.is("shift 3", x.watched(3, 0), -1);
        Due.is("shift -1", x.watched(-1, 0), -1);
        Due.is("place -1", x.watched(0, -1), -1);
    }

    private static void watchedOfNone() {
        ThirtyThreeBelow x = new ThirtyThreeBelow();
        Due.is("no watch yet", x.watched(0, 0), -1);
        Due.is("nobody", x.watch(3, 9), 0);
        Due.is("nobody", x.watched(0, 0), -2);
        Due.is("nobody", x.watched(2, 2), -2);
        Due.is("place 3", x.watched(2, 3), -1);
        x.shelter(31, 1);
        int liner = Due.throughAtOnce(x, 5, 3);
        x.man(50, 0);
        x.man(50, 0);
        x.capsule(liner);
        x.raise(1);
        Due.is("one is up", x.watch(1, 9), 1);
        Due.is("who is below", x.watched(0, 0), liner + 2);
        ThirtyThreeBelow y = new ThirtyThreeBelow();
        y.man(50, 0);
        Due.is("MAN 0", y.watch(1, 0), 1);
        Due.is("MAN 0", y.watched(0, 0), 0);
    }
}
