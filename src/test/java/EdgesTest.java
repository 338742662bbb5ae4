import java.util.function.ToLongFunction;

/**
 * Promises 2 to 56: of each argument the last values inside its bounds and the first ones outside, on both sides, and
 * ints far out that would come inside if they were cut; what is outside is refused and leaves all as it is.
 */
public final class EdgesTest {
    private static final long BAD = ThirtyThreeBelow.BAD, NOT = ThirtyThreeBelow.NOT, VOID = ThirtyThreeBelow.VOID;
    private static final int[] CELLS = {1, 60, 101, 160, 3101, 3160};
    private static final int[] NO_CELLS = {-1, 0, 61, 99, 100, 161, 3100, 3161, 3199, 3200, 3201, 3260, -100, -99, -101,
        65536 + 101, 101 - 65536, 256 * 100 + 1, Integer.MAX_VALUE, Integer.MIN_VALUE, Integer.MIN_VALUE + 101};
    private static final int[] SPANS = {0, 31, 3131, 101, 1631};
    private static final int[] NO_SPANS = {-1, 32, 100, 201, 1110, 3130, 3132, 3199, 3200, 3231, 3232, -100, -101,
        65536 + 102, 102 - 65536, Integer.MAX_VALUE, Integer.MIN_VALUE, Integer.MIN_VALUE + 102};
    private static final int[] ORDERS = {0, 1, 2, 10, 11, 12};
    private static final int[] NO_ORDERS = {-1, 3, 9, 13, 19, 20, 22, 102, -10, 65536, 12 - 65536, Integer.MAX_VALUE,
        Integer.MIN_VALUE};

    /** A call with one argument that is not settled. */
    private interface With {
        long answer(ThirtyThreeBelow x, int v);
    }

    public static void main(String[] args) {
        camp();
        whatIsTakenIsSeen();
        mountain();
        bodies();
        ofBodies();
        machines();
        boring();
        maps();
        orders();
        hours();
        tubes();
        watches();
        aims();
        capsule();
        acts();
        shelves();
        numbersOnShelves();
        places();
        Due.end();
    }

    /** The camp is as the rows below take it. */
    private static void camp() {
        ThirtyThreeBelow x = Camp.made();
        int[] counts = {Camp.BODIES, 4, 2, 3, Camp.HOUR, 3, 3, 3, 7, 0, 2, 10};
        for (int what = 0; what < counts.length; what++) {
            Due.is("count(" + what + ")", x.count(what), counts[what]);
        }
        for (int hole = Camp.HOLE; hole <= Camp.LINER; hole++) {
            Due.is("THROUGH", x.ofBody(hole, 5), hole == Camp.TUBE || hole == Camp.SHAFT ? 1 : 0);
        }
        Due.is("yards bored", x.ofBody(Camp.HOLE, 3), 3);
        for (int m = 0; m < 3; m++) {
            Due.is("where it is", x.set(m, -1), m == 0 ? Camp.HOLE : m == 1 ? Camp.SHAFT : Camp.LINER);
        }
    }

    private static void seen(String call, ToLongFunction<ThirtyThreeBelow> taken) {
        ThirtyThreeBelow x = Camp.made();
        taken.applyAsLong(x);
        Due.so(call + " is seen", !java.util.Arrays.equals(Camp.shown(x), Camp.shown(Camp.made())));
    }

    /** Refused calls are seen to change nothing only if calls that are taken are seen. */
    private static void whatIsTakenIsSeen() {
        seen("hard", x -> x.hard(1004, 1));
        seen("open", x -> x.open(1004, 1));
        seen("body", x -> x.body(0));
        seen("hole", x -> x.hole(2, 101));
        seen("man", x -> x.man(1, 1));
        seen("ill", x -> x.ill(Camp.MAN, 9));
        for (int m = 0; m < 3; m++) {
            int one = m;
            seen("speed", x -> x.speed(one, 11));
            seen("set", x -> x.set(one, -1));
            seen("breaks", x -> x.breaks(one, 12));
        }
        seen("yard", x -> x.yard(Camp.HOLE, 1));
        seen("yard", x -> x.yard(Camp.LINER, 1));
        seen("log", x -> x.log(Camp.HOLE, Camp.FLOATS, 3, 3, 1));
        seen("log, LOST", x -> x.log(Camp.HOLE, Camp.EMPTY, 3, 2, 1));
        seen("spread", x -> x.spread(2));
        seen("map", x -> x.map(1113, 2));
        seen("old", x -> x.old(0, 3160));
        seen("feed", x -> x.feed(1, '1'));
        seen("text", x -> x.text(12, 1699));
        seen("hours", x -> x.hours(1));
        seen("spoons", x -> x.spoons(49));
        seen("move", x -> x.move(101, 1699));
        seen("down", x -> x.down(Camp.TUBE, 19, 1));
        seen("need", x -> x.need(101, 99));
        seen("order", x -> x.order());
        seen("watch", x -> x.watch(2, 9));
        seen("aim", x -> x.aim(1, 9));
        seen("aimed", x -> x.aimed(1, 1, 1));
        for (int r = 0; r < 4; r++) {
            int row = r;
            seen("rock", x -> x.rock(row, row % 2, 2));
        }
        seen("capsule", x -> x.hours(1) + x.capsule(Camp.SHAFT));
        seen("raise", x -> x.raise(1));
        seen("act", x -> x.act(Camp.BODY, 0, 0));
        for (int shelf = 0; shelf <= 5; shelf++) {
            int one = shelf;
            seen("keep", x -> x.keep(one, Camp.MAN));
            seen("row", x -> x.row(one, 1, 1));
        }
        seen("put", x -> x.put(Camp.DOUBLES, 2, 1));
        seen("blank", x -> x.blank(Camp.FLOATS, 0));
        seen("shift", x -> x.shift(Camp.BYTES, 1, Camp.BYTES, 0, 2));
    }

    private static void inside(String call, long refusal, With with, int... values) {
        for (int v : values) {
            Due.isNot(call + " with " + v, with.answer(Camp.made(), v), refusal);
        }
    }

    private static void outside(String call, long refusal, With with, int... values) {
        for (int v : values) {
            Camp.refused(call + " with " + v, refusal, x -> with.answer(x, v));
        }
    }

    private static void within(String call, long refusal, int least, int most, With with) {
        inside(call, refusal, with, least, most, least + (most - least) / 2);
        outside(call, refusal, with, least - 1, most + 1, least - 256, most + 256, least - 65536, most + 65536,
            Integer.MIN_VALUE, Integer.MAX_VALUE, Integer.MIN_VALUE + least, Integer.MAX_VALUE - 9);
    }

    private static void mountain() {
        inside("hard, cell", BAD, (x, v) -> x.hard(v, 1), CELLS);
        outside("hard, cell", BAD, (x, v) -> x.hard(v, 1), NO_CELLS);
        within("hard, v", BAD, 1, 9, (x, v) -> x.hard(1001, v));
        inside("open, cell", BAD, (x, v) -> x.open(v, 1), CELLS);
        outside("open, cell", BAD, (x, v) -> x.open(v, 1), NO_CELLS);
        within("open, is", BAD, 0, 1, (x, v) -> x.open(1002, v));
        inside("ofCell, cell", BAD, (x, v) -> x.ofCell(v, 0), CELLS);
        outside("ofCell, cell", BAD, (x, v) -> x.ofCell(v, 0), NO_CELLS);
        within("ofCell, what", BAD, 0, 1, (x, v) -> x.ofCell(1002, v));
        inside("move, cell", BAD, (x, v) -> x.move(v, 9), CELLS);
        outside("move, cell", BAD, (x, v) -> x.move(v, 9), NO_CELLS);
        within("move, hour", BAD, Camp.HOUR + 1, 1699, (x, v) -> x.move(101, v));
    }

    private static void bodies() {
        within("body, kind", BAD, 0, 1, (x, v) -> x.body(v));
        within("hole, kind", BAD, 2, 5, (x, v) -> x.hole(v, 101));
        inside("hole, what", BAD, (x, v) -> x.hole(2, v), 1, 99, 101, 3101, 3199);
        outside("hole, what", BAD, (x, v) -> x.hole(2, v), -1, 0, 100, 3100, 3200, 3201, -99, -100, 65536 + 101, 101 - 65536,
            Integer.MAX_VALUE, Integer.MIN_VALUE, Integer.MIN_VALUE + 101);
        for (int span : SPANS) {
            Due.is("shelter(" + span + ", 1)", new ThirtyThreeBelow().shelter(span, 1), 0);
        }
        for (int span : NO_SPANS) {
            shelterRefused(span, 1);
        }
        int[] yards = {0, 61, -1, 257, 65537, 1 - 65536, Integer.MIN_VALUE, Integer.MAX_VALUE};
        for (int yard : yards) {
            shelterRefused(1113, yard);
        }
        Due.is("shelter(1113, 1)", new ThirtyThreeBelow().shelter(1113, 1), 0);
        Due.is("shelter(1113, 60)", new ThirtyThreeBelow().shelter(1113, 60), 0);
        within("man, strength", BAD, 0, 999, (x, v) -> x.man(v, 0));
        within("man, what", BAD, 0, 99, (x, v) -> x.man(1, v));
        within("ill, man", BAD, Camp.MAN, Camp.LAST_MAN, (x, v) -> x.ill(v, 1));
        within("ill, v", BAD, 0, 9, (x, v) -> x.ill(Camp.MAN, v));
    }

    private static void shelterRefused(int span, int yard) {
        ThirtyThreeBelow x = new ThirtyThreeBelow();
        Due.is("shelter(" + span + ", " + yard + ")", x.shelter(span, yard), BAD);
        Due.is("none stands", x.count(0), 0);
        Due.is("the next one stands", x.shelter(1113, 60), 0);
    }

    private static void ofBodies() {
        within("ofBody, body", VOID, 0, Camp.BODIES - 1, (x, v) -> x.ofBody(v, 0));
        within("ofBody of a BODY, what", VOID, 0, 0, (x, v) -> x.ofBody(Camp.BODY, v));
        within("ofBody of a WAY, what", VOID, 0, 0, (x, v) -> x.ofBody(Camp.WAY, v));
        for (int hole = Camp.HOLE; hole <= Camp.LINER; hole++) {
            int one = hole;
            within("ofBody of " + one + ", what", VOID, 0, 7, (x, v) -> x.ofBody(one, v));
        }
        within("ofBody of the SHELTER, what", VOID, 0, 4, (x, v) -> x.ofBody(Camp.SHELTER, v));
        within("ofBody of a MAN, what", VOID, 0, 4, (x, v) -> x.ofBody(Camp.MAN, v));
    }

    private static void machines() {
        within("speed, machine", BAD, 0, 2, (x, v) -> x.speed(v, 20));
        within("speed, v", BAD, 10, 60, (x, v) -> x.speed(1, v));
        within("set, machine", VOID, 0, 2, (x, v) -> x.set(v, -1));
        within("set, hole", VOID, Camp.HOLE, Camp.LINER, (x, v) -> x.set(v == Camp.HOLE ? 0 : 2, v));
        inside("set, none", VOID, (x, v) -> x.set(1, v), -1);
        outside("set, hole", VOID, (x, v) -> x.set(1, v), -2, Camp.BODY, Camp.WAY, Camp.SHELTER, Camp.MAN, Camp.BODIES, 120);
        outside("set, where another MACHINE is", VOID, (x, v) -> x.set(1, v), Camp.HOLE, Camp.LINER);
        within("breaks, machine", BAD, 0, 2, (x, v) -> x.breaks(v, 99));
        within("breaks, till", BAD, Camp.HOUR, 1699, (x, v) -> x.breaks(1, v));
    }

    private static void holes(String call, long refusal, With with) {
        inside(call + ", hole", refusal, with, Camp.HOLE);
        outside(call + ", hole", refusal, with, -1, Camp.BODY, Camp.WAY, Camp.SHELTER, Camp.MAN, Camp.LAST_MAN, Camp.BODIES,
            119, 120, Camp.HOLE + 256, Camp.HOLE - 65536, Integer.MIN_VALUE, Integer.MAX_VALUE);
    }

    private static void boring() {
        holes("yard", BAD, (x, v) -> x.yard(v, 0));
        within("yard, lean", BAD, -2, 2, (x, v) -> x.yard(Camp.HOLE, v));
        outside("yard of one THROUGH", NOT, (x, v) -> x.yard(v, 0), Camp.TUBE, Camp.SHAFT);
        holes("met", BAD, (x, v) -> x.met(v, 1));
        within("met, yard", BAD, 1, 3, (x, v) -> x.met(Camp.HOLE, v));
        holes("canBe", BAD, (x, v) -> x.canBe(v, 1, 0));
        within("canBe, yard", BAD, 1, 3, (x, v) -> x.canBe(Camp.HOLE, v, 0));
        within("canBe, what", BAD, 0, 1, (x, v) -> x.canBe(Camp.HOLE, 1, v));
        holes("log", BAD, (x, v) -> x.log(v, Camp.FLOATS, 0, 1, 1));
        inside("log, shelf", BAD, (x, v) -> x.log(Camp.HOLE, v, 0, 1, 1), Camp.FLOATS, Camp.DOUBLES, Camp.EMPTY);
        outside("log, shelf", BAD, (x, v) -> x.log(Camp.HOLE, v, 0, 1, 1), -1, 6, 256, -65536, Integer.MIN_VALUE, Integer.MAX_VALUE);
        outside("log, no floats", -12, (x, v) -> x.log(Camp.HOLE, v, 0, 1, 1), Camp.BYTES, Camp.KEEPS_LINER, Camp.INTS);
        within("log, yard", BAD, 1, 60, (x, v) -> x.log(Camp.HOLE, Camp.FLOATS, 0, v, 1));
        within("log, n", BAD, 1, 60, (x, v) -> x.log(Camp.HOLE, Camp.FLOATS, 0, 1, v));
        within("spread", BAD, 0, 8, (x, v) -> x.spread(v));
    }

    private static void maps() {
        inside("map, span", BAD, (x, v) -> x.map(v, 5), SPANS);
        outside("map, span", BAD, (x, v) -> x.map(v, 5), NO_SPANS);
        within("map, yard", BAD, 1, 60, (x, v) -> x.map(1113, v));
        within("old, map", BAD, 0, 2, (x, v) -> x.old(v, 405));
        inside("old, cell", BAD, (x, v) -> x.old(1, v), CELLS);
        outside("old, cell", BAD, (x, v) -> x.old(1, v), NO_CELLS);
        outside("old, also told", BAD, (x, v) -> x.old(2, v), 1002, 1003);
        within("wrong, map", BAD, 0, 2, (x, v) -> x.wrong(v));
        within("known, what", BAD, 0, 5, (x, v) -> x.known(v));
    }

    private static void orders() {
        within("feed, n", BAD, 1, 4, (x, v) -> x.feed(v, 0x31313131));
        inside("feed, v", BAD, (x, v) -> x.feed(4, v), 0, -1, Integer.MIN_VALUE, Integer.MAX_VALUE);
        inside("text, what", BAD, (x, v) -> x.text(v, 2), ORDERS);
        outside("text, what", BAD, (x, v) -> x.text(v, 2), NO_ORDERS);
        within("text, from", BAD, Camp.HOUR, 1699, (x, v) -> x.text(0, v));
        inside("inForce, what", BAD, (x, v) -> x.inForce(v, 2, 2), ORDERS);
        outside("inForce, what", BAD, (x, v) -> x.inForce(v, 2, 2), NO_ORDERS);
        within("inForce, hour", BAD, 0, 1699, (x, v) -> x.inForce(10, v, 2));
        within("inForce, k", BAD, 0, 1699, (x, v) -> x.inForce(10, 2, v));
        inside("says, what", VOID, (x, v) -> x.says(v, v % 10 == 2 ? -1 : Camp.MAN), ORDERS);
        outside("says, what", VOID, (x, v) -> x.says(v, -1), NO_ORDERS);
        outside("says, what", VOID, (x, v) -> x.says(v, Camp.MAN), NO_ORDERS);
        for (int what : ORDERS) {
            if (what % 10 != 2) {
                within("says(" + what + "), man", VOID, Camp.MAN, Camp.LAST_MAN, (x, v) -> x.says(what, v));
                outside("says(" + what + "), man", VOID, (x, v) -> x.says(what, v), -1, -2, Camp.BODY, Camp.HOLE, 119, 120);
            } else {
                within("says(" + what + "), man", VOID, -1, -1, (x, v) -> x.says(what, v));
                outside("says(" + what + "), man", VOID, (x, v) -> x.says(what, v), Camp.MAN, Camp.LAST_MAN);
            }
        }
    }

    private static void hours() {
        within("hours", BAD, 1, 48, (x, v) -> x.hours(v));
        within("spoons", BAD, 0, 9999, (x, v) -> x.spoons(v));
        within("last, strength", BAD, 0, 999, (x, v) -> x.last(v, 1));
        within("last, spoons", BAD, 0, 9, (x, v) -> x.last(50, v));
        within("best", BAD, 0, 999, (x, v) -> x.best(v));
    }

    private static void tubes() {
        inside("down, tube", BAD, (x, v) -> x.down(v, 10, 1), Camp.TUBE);
        outside("down, tube", BAD, (x, v) -> x.down(v, 10, 1), -1, Camp.BODY, Camp.WAY, Camp.HOLE, Camp.SHAFT, Camp.LINER,
            Camp.SHELTER, Camp.MAN, Camp.BODIES, 120, Camp.TUBE + 256, Integer.MIN_VALUE, Integer.MAX_VALUE);
        inside("down, what", BAD, (x, v) -> x.down(Camp.TUBE, v, 1), 10, 20, 9990, 11, 19);
        outside("down, what", BAD, (x, v) -> x.down(Camp.TUBE, v, 1), -20, -11, -10, -1, 0, 1, 9, 21, 29, 9989, 9991, 10000, 10001,
            65536 + 4, 65546 + 4, Integer.MAX_VALUE, Integer.MIN_VALUE, Integer.MIN_VALUE + 18);
        within("down, hours", BAD, 1, 9, (x, v) -> x.down(Camp.TUBE, 10, v));
        within("below", BAD, 0, 9, (x, v) -> x.below(v));
        inside("need, what", BAD, (x, v) -> x.need(v, 1), 101, 199, 201, 901, 999);
        outside("need, what", BAD, (x, v) -> x.need(v, 1), -101, -1, 0, 1, 99, 100, 200, 900, 1000, 1001, 65536 + 101,
            101 - 65536, Integer.MAX_VALUE, Integer.MIN_VALUE);
        within("need, need", BAD, 0, 99, (x, v) -> x.need(101, v));
        within("ordered", BAD, 0, 1, (x, v) -> x.ordered(v));
    }

    private static void watches() {
        within("watch, places", BAD, 1, 3, (x, v) -> x.watch(v, 1));
        within("watch, ill", BAD, 0, 9, (x, v) -> x.watch(1, v));
        within("watched, shift", BAD, 0, 2, (x, v) -> x.watched(v, 0));
        within("watched, place", BAD, 0, 1, (x, v) -> x.watched(0, v));
    }

    private static void aims() {
        within("aim, column", BAD, 0, 31, (x, v) -> x.aim(v, 0));
        within("aim, misses", BAD, 0, 9, (x, v) -> x.aim(0, v));
        within("rock, row", BAD, 0, 3, (x, v) -> x.rock(v, 0, 2));
        within("rock, place", BAD, 0, 5, (x, v) -> x.rock(0, v, 2));
        within("rock, v", BAD, 1, 9, (x, v) -> x.rock(0, 0, v));
        within("aimed, rows", BAD, 1, 4, (x, v) -> x.aimed(v, 1, 1));
        within("aimed, yard", BAD, 1, 60, (x, v) -> x.aimed(1, v, 1));
        within("aimed, machines", BAD, 1, 2, (x, v) -> x.aimed(1, 1, v));
        within("aimedAt, i", BAD, 0, 1, (x, v) -> x.aimedAt(v, 0));
        within("aimedAt, what", BAD, 0, 1, (x, v) -> x.aimedAt(0, v));
        within("race, machine", BAD, 0, 2, (x, v) -> x.race(v, 60, 1));
        within("race, yard", BAD, 1, 60, (x, v) -> x.race(0, v, 1));
        within("race, hard", BAD, 1, 9, (x, v) -> x.race(0, 60, v));
        outside("race, a yard that is there", NOT, (x, v) -> x.race(0, v, 1), 1, 3);
        inside("race, the first that is not", NOT, (x, v) -> x.race(0, v, 1), 4);
        outside("race of one THROUGH", NOT, (x, v) -> x.race(1, v, 1), 1, 2, 3, 60);
    }

    private static void capsule() {
        inside("capsule", BAD, (x, v) -> x.capsule(v), Camp.SHAFT);
        outside("capsule", BAD, (x, v) -> x.capsule(v), -1, Camp.BODY, Camp.WAY, Camp.HOLE, Camp.TUBE, Camp.SHELTER, Camp.MAN,
            Camp.BODIES, 119, 120, Camp.SHAFT + 256, Camp.SHAFT - 65536, Integer.MIN_VALUE, Integer.MAX_VALUE);
        outside("capsule, not THROUGH", NOT, (x, v) -> x.capsule(v), Camp.LINER);
        within("up, i", BAD, 0, 2, (x, v) -> x.up(v, 0));
        within("up, what", BAD, 0, 1, (x, v) -> x.up(0, v));
        within("raise", BAD, 0, 199, (x, v) -> x.raise(v));
    }

    /** What is no ACT takes THE TRACE away, and changes nothing else. */
    private static void acts() {
        within("trace", BAD, 0, 9, (x, v) -> x.trace(v));
        int[] none = {-1, Camp.BODIES, 119, 120, 256, -65536, Integer.MIN_VALUE, Integer.MAX_VALUE};
        for (int body : none) {
            noAct(body, 0);
        }
        int[] noActs = {-1, 4, 256, -65536, Integer.MIN_VALUE, Integer.MAX_VALUE};
        for (int act : noActs) {
            noAct(Camp.LINER, act);
        }
        for (int act = 0; act <= 3; act++) {
            ThirtyThreeBelow x = Camp.made();
            Due.isNot("act(9, " + act + ", 900)", x.act(Camp.LAST_MAN, act, 900), 0);
            Due.isNot("bodies ran", x.count(11), 0);
            Due.isNot("act(0, " + act + ", 900)", x.act(Camp.BODY, act, 900), 0);
        }
    }

    private static void noAct(int body, int act) {
        ThirtyThreeBelow x = Camp.made();
        Due.is("act(" + body + ", " + act + ", 5)", x.act(body, act, 5), 0);
        Due.is("none ran", x.count(11), 0);
        Due.is("no TRACE", x.trace(0), BAD);
        x.act(Camp.LINER, 3, 9);
        Due.same("act(" + body + ", " + act + ", 5)", Camp.shown(x), Camp.shown(Camp.made()));
    }

    private static void shelves() {
        within("keep, shelf", BAD, 0, 5, (x, v) -> x.keep(v, 0));
        within("keep, body", BAD, -1, Camp.BODIES - 1, (x, v) -> x.keep(0, v));
        within("row, shelf", BAD, 0, 5, (x, v) -> x.row(v, 0, 1));
        within("row, sort", BAD, 0, 4, (x, v) -> x.row(0, v, 1));
        inside("row, n", BAD, (x, v) -> x.row(0, 0, v), 0, 60);
        outside("row, n", BAD, (x, v) -> x.row(0, 0, v), 61, 316, 65536, Integer.MAX_VALUE);
        inside("row, n", -14, (x, v) -> x.row(0, 0, v), 0, 60);
        outside("row, n below 0", -14, (x, v) -> x.row(0, 0, v), -1, -60, -65536, Integer.MIN_VALUE);
        outside("put, shelf", BAD, (x, v) -> x.put(v, 0, 1), -1, 6, 256, -65536, Integer.MIN_VALUE, Integer.MAX_VALUE);
        outside("blank, shelf", BAD, (x, v) -> x.blank(v, 0), -1, 6, 256, -65536, Integer.MIN_VALUE, Integer.MAX_VALUE);
        outside("element, shelf", Long.MIN_VALUE, (x, v) -> x.element(v, 0), -1, 6, 256, -65536, Integer.MIN_VALUE, Integer.MAX_VALUE);
        outside("shift, shelf", BAD, (x, v) -> x.shift(v, 0, 0, 0, 1), -1, 6, 256, -65536, Integer.MIN_VALUE, Integer.MAX_VALUE);
        outside("shift, other", BAD, (x, v) -> x.shift(0, 0, v, 0, 1), -1, 6, 256, -65536, Integer.MIN_VALUE, Integer.MAX_VALUE);
        outside("taken, shelf", BAD, (x, v) -> x.taken(v, 0), -1, 6, 256, -65536, Integer.MIN_VALUE, Integer.MAX_VALUE);
        outside("taken, k", BAD, (x, v) -> x.taken(Camp.KEEPS_LINER, v), -1, 8, 256, -65536, Integer.MIN_VALUE, Integer.MAX_VALUE);
        within("count", BAD, 0, 11, (x, v) -> x.count(v));
        for (int shelf = 0; shelf <= 5; shelf++) {
            ThirtyThreeBelow x = new ThirtyThreeBelow();
            Due.is("nothing at first", x.taken(shelf, 0), -11);
            Due.is("row", x.row(shelf, 2, 1), 1);
            Due.is("put", x.put(shelf, 0, 5 + shelf), 1);
            Due.is("shift", x.shift(shelf, 0, shelf, 0, 1), 1);
            Due.is("element", x.element(shelf, 0), 5 + shelf);
        }
    }

    private static void refusedPut(int shelf, long v, long want) {
        Camp.refused("put(" + shelf + ", 0, " + v + ")", want, x -> x.put(shelf, 0, v));
    }

    private static void numbersOnShelves() {
        int[] real = {Camp.FLOATS, Camp.DOUBLES};
        long[] in = {-9999, 9999, 0, -9998, 9998};
        long[] out = {-10000, 10000, 1L << 32, -1L << 32, (1L << 32) + 5, Long.MIN_VALUE, Long.MAX_VALUE, Integer.MIN_VALUE,
            Integer.MAX_VALUE, Long.MIN_VALUE + 5};
        for (int shelf : real) {
            for (long v : in) {
                ThirtyThreeBelow x = Camp.made();
                Due.is("put(" + shelf + ", 0, " + v + ")", x.put(shelf, 0, v), 1);
                Due.is("element", x.element(shelf, 0), v);
            }
            for (long v : out) {
                refusedPut(shelf, v, BAD);
            }
        }
        long[] whole = {Long.MIN_VALUE, Long.MAX_VALUE, 10000, -10000, 1L << 32, (1L << 32) - 1};
        for (long v : whole) {
            ThirtyThreeBelow x = Camp.made();
            Due.is("put of bytes", x.put(Camp.BYTES, 0, v), 1);
            Due.is("its lowest bits", x.element(Camp.BYTES, 0), (byte) v);
            Due.is("put of ints", x.put(Camp.INTS, 1, v), 1);
            Due.is("its lowest bits", x.element(Camp.INTS, 1), (int) v);
            Due.is("beside it", x.element(Camp.INTS, 0), Integer.MIN_VALUE);
        }
    }

    private static void placesOf(String call, int shelf, long refusal, With with) {
        int length = shelf == Camp.FLOATS ? 4 : shelf == Camp.INTS ? 2 : 3;
        within(call + " on shelf " + shelf + ", i", refusal, 0, length - 1, with);
        outside(call + " on shelf " + shelf + ", i", refusal, with, 59, 60);
    }

    private static void places() {
        int[] rows = {Camp.FLOATS, Camp.DOUBLES, Camp.BYTES, Camp.INTS};
        for (int shelf : rows) {
            placesOf("put", shelf, -13, (x, v) -> x.put(shelf, v, 1));
            placesOf("element", shelf, Long.MIN_VALUE, (x, v) -> x.element(shelf, v));
            placesOf("shift from", shelf, -13, (x, v) -> x.shift(shelf, v, shelf, 0, 1));
            placesOf("shift to", shelf, -13, (x, v) -> x.shift(shelf, 0, shelf, v, 1));
        }
        placesOf("blank", Camp.FLOATS, -13, (x, v) -> x.blank(Camp.FLOATS, v));
        placesOf("blank", Camp.DOUBLES, -13, (x, v) -> x.blank(Camp.DOUBLES, v));
        within("shift, n", -13, 0, 4, (x, v) -> x.shift(Camp.FLOATS, 0, Camp.FLOATS, 0, v));
        within("shift behind the end, from", -13, 0, 4, (x, v) -> x.shift(Camp.FLOATS, v, Camp.FLOATS, 0, 0));
        within("shift behind the end, to", -13, 0, 4, (x, v) -> x.shift(Camp.FLOATS, 0, Camp.FLOATS, v, 0));
        within("shift, as many as there are from", -13, 0, 2, (x, v) -> x.shift(Camp.FLOATS, v, Camp.FLOATS, 0, 2));
        within("shift, as many as there are to", -13, 0, 2, (x, v) -> x.shift(Camp.FLOATS, 0, Camp.FLOATS, v, 2));
        nothingThere(Camp.EMPTY, -11);
        nothingThere(Camp.KEEPS_LINER, -12);
    }

    private static void nothingThere(int shelf, long refusal) {
        refusedPut(shelf, 10000, refusal);
        for (ToLongFunction<ThirtyThreeBelow> call : java.util.List.<ToLongFunction<ThirtyThreeBelow>>of(
            x -> x.put(shelf, -1, 1), x -> x.blank(shelf, 0), x -> x.blank(shelf, 99), x -> x.shift(shelf, 0, shelf, 0, 1),
            x -> x.shift(shelf, 0, Camp.FLOATS, 0, 1), x -> x.shift(Camp.FLOATS, 0, shelf, 0, 1), x -> x.shift(shelf, -1, 0, -1, -1))) {
            Camp.refused("shelf " + shelf, refusal, call);
        }
        Camp.refused("element of shelf " + shelf, Long.MIN_VALUE, x -> x.element(shelf, 0));
    }
}
