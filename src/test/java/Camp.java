import java.util.function.Consumer;
import java.util.function.ToLongFunction;

/** A camp in which all is in use, and all that later calls show of it; both together stay within 512 calls. */
final class Camp {
    static final int BODY = 0, WAY = 1, HOLE = 2, TUBE = 3, SHAFT = 4, LINER = 5, SHELTER = 6, MAN = 7, LAST_MAN = 9, BODIES = 10;
    static final int HOUR = 2;
    // Rows by shelves: floats, doubles, bytes; the LINER; ints; nothing.
    static final int FLOATS = 0, DOUBLES = 1, BYTES = 2, KEEPS_LINER = 3, INTS = 4, EMPTY = 5;

    private Camp() {
    }

    static ThirtyThreeBelow made() {
        ThirtyThreeBelow x = new ThirtyThreeBelow();
        bodies(x);
        boring(x);
        shelves(x);
        maps(x);
        orders(x);
        plans(x);
        return x;
    }

    private static void bodies(ThirtyThreeBelow x) {
        x.body(0);
        x.body(1);
        x.hole(2, 1005);
        x.hole(3, 1107);
        x.hole(4, 1209);
        x.hole(5, 1311);
        x.shelter(1113, 2);
        x.man(300, 42);
        x.man(200, 15);
        x.man(100, 90);
        x.spoons(50);
    }

    private static void boring(ThirtyThreeBelow x) {
        x.hard(1001, 2);
        x.open(1002, 1);
        x.open(1502, 1);
        x.speed(1, 10);
        x.set(0, HOLE);
        x.set(1, TUBE);
        Due.yards(x, HOLE, 5);
        Due.yards(x, TUBE, 2);
        Due.yards(x, SHAFT, 2);
        Due.yards(x, LINER, 2);
        x.hours(1);
        x.set(1, SHAFT);
        x.hours(1);
        x.set(2, LINER);
        x.breaks(2, 9);
        x.move(1502, 20);
        x.move(1112, 25);
        x.down(TUBE, 30, 4);
        x.down(TUBE, 17, 5);
    }

    private static void shelves(ThirtyThreeBelow x) {
        x.row(FLOATS, 3, 4);
        x.put(FLOATS, 0, 1);
        x.put(FLOATS, 1, -2);
        x.blank(FLOATS, 2);
        x.put(FLOATS, 3, 3);
        x.row(DOUBLES, 4, 3);
        x.put(DOUBLES, 1, -9999);
        x.row(BYTES, 0, 3);
        x.put(BYTES, 2, 200);
        x.keep(KEEPS_LINER, LINER);
        x.row(INTS, 2, 2);
        x.put(INTS, 0, Integer.MIN_VALUE);
        x.log(HOLE, FLOATS, 0, 1, 2);
        x.spread(1);
    }

    private static void maps(ThirtyThreeBelow x) {
        x.map(1113, 2);
        x.old(0, 1002);
        x.map(2020, 5);
        x.map(911, 2);
        x.old(2, 1002);
        x.old(2, 1003);
    }

    private static void orders(ThirtyThreeBelow x) {
        Due.text(x, 10, HOUR, "2");
        Due.text(x, 1, HOUR, "k");
        Due.text(x, 2, HOUR, "h=9");
        Due.tape(x, "7+s");
        x.watch(2, 4);
        x.capsule(SHAFT);
        x.act(LINER, 3, 9);
    }

    private static void plans(ThirtyThreeBelow x) {
        x.need(310, 2);
        x.need(299, 0);
        x.order();
        x.need(120, 4);
        x.need(901, 0);
        x.aim(4, 1);
        x.aim(9, 0);
        x.rock(0, 0, 5);
        x.rock(3, 1, 9);
        x.aimed(2, 30, 2);
        x.aim(31, 0);
        x.aim(0, 2);
    }

    /** The answer is the one due, and what later calls show is as without the call. */
    static void refused(String call, long want, Consumer<ThirtyThreeBelow> scene, ToLongFunction<ThirtyThreeBelow> refused) {
        ThirtyThreeBelow x = made();
        ThirtyThreeBelow without = made();
        scene.accept(x);
        scene.accept(without);
        Due.is(call, refused.applyAsLong(x), want);
        Due.same(call + " changed what is shown as", shown(x), shown(without));
    }

    static void refused(String call, long want, ToLongFunction<ThirtyThreeBelow> refused) {
        refused(call, want, x -> { }, refused);
    }

    static long[] shown(ThirtyThreeBelow x) {
        Answers all = new Answers();
        asked(x, all);
        used(x, all);
        later(x, all);
        return all.values();
    }

    /** What can be asked without a change. */
    private static void asked(ThirtyThreeBelow x, Answers all) {
        for (int what = 0; what <= 11; what++) {
            all.add(x.count(what));
        }
        int[] cells = {1, 1001, 1002, 1102, 1112, 1502, 3160};
        for (int cell : cells) {
            all.add(x.ofCell(cell, 0));
            all.add(x.ofCell(cell, 1));
        }
        for (int body = 0; body < BODIES; body++) {
            for (int what = 0; what <= (body < HOLE ? 0 : body <= LINER ? 7 : 4); what++) {
                all.add(x.ofBody(body, what));
            }
        }
        for (int yard = 1; yard <= 3; yard++) {
            all.add(x.met(HOLE, yard));
            all.add(x.canBe(HOLE, yard, 0));
            all.add(x.canBe(HOLE, yard, 1));
        }
        for (int n = 0; n < 6; n++) {
            all.add(x.known(n));
            all.add(x.taken(n, 0));
            all.add(x.element(n, 0));
            all.add(x.element(n, 1));
            all.add(x.element(n, 2));
            all.add(x.inForce(n / 3 * 10 + n % 3, 1699, 1699));
        }
        for (int n = 0; n < 3; n++) {
            all.add(x.wrong(n));
            all.add(x.race(n, 60, 9));
            all.add(x.ordered(n));
            all.add(x.trace(n));
            all.add(x.up(n, 0));
            all.add(x.up(n, 1));
            all.add(x.watched(n, 0));
            all.add(x.watched(n, 1));
            all.add(x.aimedAt(n, 0));
            all.add(x.aimedAt(n, 1));
            all.add(x.says(10, MAN + n));
            all.add(x.below(n * 7 % 9));
        }
        all.add(x.last(40, 2));
        all.add(x.best(40));
        all.add(x.says(2, -1));
    }

    /** What is seen when it is used up or told anew. */
    private static void used(ThirtyThreeBelow x, Answers all) {
        all.add(x.need(104, 9));
        all.add(x.order());
        all.add(x.ordered(0));
        all.add(x.ordered(1));
        for (int r = 0; r < 4; r++) {
            all.add(x.rock(r, r % 2, 1 + r));
        }
        all.add(x.aim(7, 9));
        all.add(x.aimed(4, 30, 1));
        all.add(x.aimedAt(0, 0));
        all.add(x.spread(2));
        all.add(x.text(0, x.count(4)));
        all.add(x.says(0, MAN));
        all.add(x.old(0, 1203));
        all.add(x.map(1113, 2));
        all.add(x.yard(HOLE, 1));
        all.add(x.yard(LINER, 0));
        all.add(x.log(HOLE, FLOATS, 2, 3, 1));
        all.add(x.canBe(HOLE, 3, 0));
        all.add(x.move(1001, 1699));
        all.add(x.down(TUBE, 18, 1));
        all.add(x.watch(1, 4));
        all.add(x.raise(1));
        all.add(x.body(0));
    }

    /** What is seen when HOURS have gone by. */
    private static void later(ThirtyThreeBelow x, Answers all) {
        all.add(x.hours(10));
        all.add(x.hours(20));
        for (int body = HOLE; body <= LINER; body++) {
            all.add(x.ofBody(body, 3));
            all.add(x.ofBody(body, 4));
            all.add(x.ofBody(body, 6));
        }
        for (int man = MAN; man <= LAST_MAN; man++) {
            all.add(x.ofBody(man, 1));
        }
        for (int stuff = 0; stuff <= 9; stuff++) {
            all.add(x.below(stuff));
        }
        all.add(x.ofCell(1502, 1));
        all.add(x.ofCell(1112, 0));
        for (int m = 0; m < 3; m++) {
            all.add(x.speed(m, 10));
            all.add(x.set(m, -1));
        }
        all.add(x.count(8));
        all.add(x.count(9));
        all.add(x.count(10));
    }

    /** Answers in a row, as they came. */
    private static final class Answers {
        private long[] kept = new long[512];
        private int size;

        void add(long answer) {
            kept[size++] = answer;
        }

        long[] values() {
            return java.util.Arrays.copyOf(kept, size);
        }
    }
}
