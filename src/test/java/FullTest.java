import java.util.function.Consumer;
import java.util.function.ToLongFunction;

/** What is FULL: the last one that has room, the first that has none, and that nothing changes then; where room comes again. */
public final class FullTest {
    private static final int BAD = ThirtyThreeBelow.BAD, FULL = ThirtyThreeBelow.FULL;

    public static void main(String[] args) {
        bodies();
        yards();
        maps();
        olds();
        tape();
        texts();
        moves();
        onTheWay();
        needs();
        columns();
        rows();
        trace();
        Due.end();
    }

    private static void full(Consumer<ThirtyThreeBelow> scene, String call, ToLongFunction<ThirtyThreeBelow> more) {
        Camp.refused(call, FULL, scene, more);
    }

    private static void bad(Consumer<ThirtyThreeBelow> scene, String call, ToLongFunction<ThirtyThreeBelow> more) {
        Camp.refused(call + ", BAD ahead of FULL", BAD, scene, more);
    }

    private static void bodies() {
        Consumer<ThirtyThreeBelow> scene = x -> {
            for (int n = Camp.BODIES; n < 120; n++) {
                Due.is("body", x.body(n % 2), n);
            }
        };
        full(scene, "body(0)", x -> x.body(0));
        full(scene, "body(1)", x -> x.body(1));
        for (int kind = 2; kind <= 5; kind++) {
            int one = kind;
            full(scene, "hole(" + one + ", 101)", x -> x.hole(one, 101));
        }
        full(scene, "man(1, 1)", x -> x.man(1, 1));
        bad(scene, "body(2)", x -> x.body(2));
        bad(scene, "hole(2, 100)", x -> x.hole(2, 100));
        bad(scene, "hole(6, 101)", x -> x.hole(6, 101));
        bad(scene, "man(1000, 0)", x -> x.man(1000, 0));
        lastBody("body", x -> x.body(1), 1);
        lastBody("hole", x -> x.hole(5, 3199), 5);
        lastBody("shelter", x -> x.shelter(31, 60), 6);
        lastBody("man", x -> x.man(999, 99), 7);
    }

    private static void lastBody(String call, ToLongFunction<ThirtyThreeBelow> last, int kind) {
        ThirtyThreeBelow x = new ThirtyThreeBelow();
        for (int n = 0; n < 119; n++) {
            x.body(0);
        }
        Due.is("the last one, " + call, last.applyAsLong(x), 119);
        Due.is("its KIND", x.ofBody(119, 0), kind);
        Due.is("one more", x.body(0), FULL);
        Due.is("BODIES", x.count(0), 120);
        Due.is("it is kept", x.keep(0, 119), 1);
        Due.is("it is taken", x.taken(0, kind), kind);
        Due.is("it acts", x.act(119, 2, 0), kind == 5 ? -119 : kind == 6 ? 119 + 119 * 2 - 1 : 119);
        noSuchBody(x, 120);
        noSuchBody(x, Integer.MAX_VALUE);
        noSuchBody(x, -1);
    }

    /** All calls that take the number of a body. */
    private static void noSuchBody(ThirtyThreeBelow x, int body) {
        Due.is("ofBody", x.ofBody(body, 0), ThirtyThreeBelow.VOID);
        Due.is("ill", x.ill(body, 1), BAD);
        Due.is("set", x.set(0, body), body == -1 ? -1 : ThirtyThreeBelow.VOID);
        Due.is("yard", x.yard(body, 0), BAD);
        Due.is("met", x.met(body, 1), BAD);
        Due.is("log", x.log(body, 5, 0, 1, 1), BAD);
        Due.is("canBe", x.canBe(body, 1, 0), BAD);
        Due.is("says", x.says(0, body), ThirtyThreeBelow.VOID);
        Due.is("down", x.down(body, 10, 1), BAD);
        Due.is("capsule", x.capsule(body), BAD);
        Due.is("act", x.act(body, 0, 5), 0);
        Due.is("keep", x.keep(0, body), body == -1 ? 1 : BAD);
        Due.is("BODIES", x.count(0), 120);
    }

    private static void yards() {
        Consumer<ThirtyThreeBelow> scene = x -> {
            for (int n = 6; n <= 60; n++) {
                Due.is("yard", x.yard(Camp.HOLE, 0), n);
            }
        };
        full(scene, "yard(2, 0)", x -> x.yard(Camp.HOLE, 0));
        bad(scene, "yard(2, 3)", x -> x.yard(Camp.HOLE, 3));
        ThirtyThreeBelow x = new ThirtyThreeBelow();
        x.hole(2, 101);
        x.speed(0, 10);
        x.set(0, 0);
        Due.yards(x, 0, 60);
        x.hours(30);
        Due.is("all are bored", x.ofBody(0, 3), 60);
        Due.is("FULL, though all are bored", x.yard(0, 0), FULL);
        Due.is("yard 60", x.met(0, 60), 0);
        Due.is("yard 61", x.met(0, 61), BAD);
        Due.is("yard 61", x.canBe(0, 61, 0), BAD);
        x.hours(1);
        Due.is("it waits", x.ofBody(0, 6), 60);
        Due.is("there", x.race(0, 60, 1), ThirtyThreeBelow.NOT);
    }

    private static void maps() {
        Consumer<ThirtyThreeBelow> scene = x -> {
            for (int n = 3; n < 8; n++) {
                Due.is("map", x.map(31, 1 + n), n);
            }
        };
        full(scene, "map(31, 1)", x -> x.map(31, 1));
        bad(scene, "map(100, 1)", x -> x.map(100, 1));
        bad(scene, "map(31, 0)", x -> x.map(31, 0));
        ThirtyThreeBelow x = Camp.made();
        scene.accept(x);
        Due.is("the last one", x.old(7, 101), 1);
        Due.is("the last one", x.wrong(7), 202);
        Due.is("no MAP 8", x.old(8, 101), BAD);
        Due.is("no MAP 8", x.wrong(8), BAD);
    }

    private static void olds() {
        Consumer<ThirtyThreeBelow> scene = x -> {
            for (int n = 2; n <= 40; n++) {
                Due.is("old", x.old(0, 500 + n), n);
            }
        };
        full(scene, "old(0, 541)", x -> x.old(0, 541));
        bad(scene, "old(0, 540), also told", x -> x.old(0, 540));
        bad(scene, "old(0, 1002), also told", x -> x.old(0, 1002));
        bad(scene, "old(0, 561)", x -> x.old(0, 561));
        bad(scene, "old(3, 541)", x -> x.old(3, 541));
        ThirtyThreeBelow x = Camp.made();
        scene.accept(x);
        Due.is("another MAP has room", x.old(1, 541), 1);
    }

    private static void tape() {
        Consumer<ThirtyThreeBelow> full = x -> {
            for (int n = 7; n <= 159; n += 4) {
                Due.is("feed", x.feed(4, 0x31313131), n);
            }
            Due.is("the last byte", x.feed(1, '1'), 160);
        };
        for (int n = 1; n <= 4; n++) {
            int one = n;
            full(full, "feed(" + one + ", 0)", x -> x.feed(one, 0));
        }
        bad(full, "feed(0, 0)", x -> x.feed(0, 0));
        bad(full, "feed(5, 0)", x -> x.feed(5, 0));
        for (int room = 0; room <= 4; room++) {
            for (int n = 1; n <= 4; n++) {
                ThirtyThreeBelow x = new ThirtyThreeBelow();
                for (int k = 0; k < 160 - room; k++) {
                    x.feed(1, '1');
                }
                Due.is("feed " + n + " where there is room for " + room, x.feed(n, 0x31313131), n <= room ? 160 - room + n : FULL);
                Due.is("bytes", x.count(7), n <= room ? 160 - room + n : 160 - room);
            }
        }
        ThirtyThreeBelow x = Camp.made();
        full.accept(x);
        Due.is("a FAULT", x.text(0, 2), -103);
        Due.is("room again", x.feed(4, 0), 4);
        Due.is("a FAULT", x.text(0, 2), -100);
        Due.is("room again", x.feed(1, '5'), 1);
        Due.is("a TEXT", x.text(0, 2), 3);
        Due.is("room again", x.feed(1, 0), 1);
    }

    private static void texts() {
        Consumer<ThirtyThreeBelow> empty = x -> {
            for (int n = 3; n < 15; n++) {
                Due.is("text", x.text(12, 2), n);
                x.feed(1, '1');
            }
            Due.is("the last one", x.text(12, 1699), 15);
        };
        Consumer<ThirtyThreeBelow> scene = empty.andThen(x -> x.feed(3, '4' | '+' << 8 | '2' << 16));
        Consumer<ThirtyThreeBelow> faulty = scene.andThen(x -> x.feed(1, '+'));
        full(scene, "text(0, 2)", x -> x.text(0, 2));
        full(faulty, "text(0, 2) of a FAULT", x -> x.text(0, 2));
        full(empty, "text(0, 2) of an empty TAPE", x -> x.text(0, 2));
        bad(faulty, "text(3, 2)", x -> x.text(3, 2));
        bad(faulty, "text(0, 1)", x -> x.text(0, 1));
        bad(faulty, "text(0, 1700)", x -> x.text(0, 1700));
        ThirtyThreeBelow x = Camp.made();
        scene.accept(x);
        Due.is("TEXTS", x.count(6), 16);
        Due.is("FULL", x.text(0, 2), FULL);
        Due.is("THE TAPE stays", x.count(7), 3);
        Due.is("the last one is in force", x.inForce(12, 1699, 2), 15);
        Due.is("the last one is not yet in force", x.inForce(12, 1698, 2), 14);
    }

    private static void moves() {
        Consumer<ThirtyThreeBelow> scene = x -> {
            for (int n = 3; n <= 60; n++) {
                Due.is("move", x.move(1600 + n, n == 60 ? 1699 : 3), n);
            }
        };
        full(scene, "move(101, 3)", x -> x.move(101, 3));
        full(scene, "move(1660, 1699), also told", x -> x.move(1660, 1699));
        bad(scene, "move(101, 2)", x -> x.move(101, 2));
        bad(scene, "move(161, 3)", x -> x.move(161, 3));
        full(scene.andThen(x -> x.hours(5)), "move, though most have moved", x -> x.move(101, 9));
        ThirtyThreeBelow x = Camp.made();
        scene.accept(x);
        x.hours(1);
        for (int n = 3; n <= 60; n++) {
            Due.is("each row moves its cell", x.ofCell(1600 + n, 0), n == 60 ? 3 : 9);
        }
        Due.hours(x, 1695);
        Due.is("not yet", x.ofCell(1660, 0), 3);
        x.hours(1);
        Due.is("in the last HOUR", x.ofCell(1660, 0), 9);
    }

    private static void onTheWay() {
        Consumer<ThirtyThreeBelow> scene = x -> {
            for (int n = 3; n <= 40; n++) {
                x.down(Camp.TUBE, 14, 1);
                Due.is("on the way", x.count(10), n);
            }
        };
        full(scene, "down(3, 10, 1)", x -> x.down(Camp.TUBE, 10, 1));
        full(scene, "down(3, 9990, 9)", x -> x.down(Camp.TUBE, 9990, 9));
        bad(scene, "down(3, 10, 0)", x -> x.down(Camp.TUBE, 10, 0));
        bad(scene, "down(4, 10, 1)", x -> x.down(Camp.SHAFT, 10, 1));
        ThirtyThreeBelow x = Camp.made();
        scene.accept(x);
        x.hours(3);
        Due.is("none has come", x.count(10), 40);
        Due.is("FULL", x.down(Camp.TUBE, 10, 1), FULL);
        x.hours(1);
        Due.is("one has come", x.count(10), 39);
        Due.is("room again, behind all others", x.down(Camp.TUBE, 10, 1), 2 + 9 + 38 + 1);
        Due.is("FULL", x.down(Camp.TUBE, 10, 1), FULL);
        x.hours(43);
        Due.is("all but one", x.below(4), 38);
        x.hours(1);
        Due.is("none", x.count(10), 0);
    }

    private static void needs() {
        Consumer<ThirtyThreeBelow> scene = x -> {
            for (int n = 3; n <= 10; n++) {
                Due.is("need", x.need(101, 99), n);
            }
        };
        full(scene, "need(101, 0)", x -> x.need(101, 0));
        bad(scene, "need(100, 0)", x -> x.need(100, 0));
        bad(scene, "need(101, 100)", x -> x.need(101, 100));
        ThirtyThreeBelow x = Camp.made();
        scene.accept(x);
        Due.is("order of ten", x.order(), 10);
        Due.is("the last place", x.ordered(9), 9);
        Due.is("no more", x.ordered(10), BAD);
        Due.is("room again", x.need(101, 0), 1);
        Due.is("order of one", x.order(), 1);
        Due.is("the only place", x.ordered(0), 0);
        Due.is("no more", x.ordered(1), BAD);
    }

    private static void columns() {
        Consumer<ThirtyThreeBelow> scene = x -> {
            for (int n = 3; n <= 6; n++) {
                Due.is("aim", x.aim(5, 9), n);
            }
        };
        full(scene, "aim(5, 0)", x -> x.aim(5, 0));
        bad(scene, "aim(32, 0)", x -> x.aim(32, 0));
        bad(scene, "aim(5, 10)", x -> x.aim(5, 10));
        ThirtyThreeBelow x = Camp.made();
        scene.accept(x);
        x.aimed(1, 1, 1);
        Due.is("room again", x.aim(0, 0), 1);
        ThirtyThreeBelow y = new ThirtyThreeBelow();
        for (int m = 0; m < 3; m++) {
            y.speed(m, 60);
        }
        for (int n = 1; n <= 6; n++) {
            y.aim(31, 9);
            for (int r = 0; r < 4; r++) {
                y.rock(r, n - 1, 9);
            }
        }
        Due.is("the greatest", y.aimed(4, 60, 2), 10 * 60 * 60 * 9);
        Due.is("the first of several", y.aimedAt(0, 0), 0);
        Due.is("the first of several", y.aimedAt(1, 0), 1);
    }

    private static void rows() {
        for (int sort = 0; sort <= 4; sort++) {
            ThirtyThreeBelow x = new ThirtyThreeBelow();
            Due.is("60 elements", x.row(5, sort, 60), 1);
            Due.is("the last one", x.put(5, 59, 7), 1);
            Due.is("the last one", x.element(5, 59), 7);
            Due.is("behind it", x.put(5, 60, 7), -13);
            Due.is("61 elements", x.row(5, sort, 61), BAD);
            Due.is("they stay", x.element(5, 59), 7);
            Due.is("all at once", x.shift(5, 0, 5, 0, 60), 60);
            Due.is("one too many", x.shift(5, 0, 5, 0, 61), -13);
            Due.is("no elements", x.row(5, sort, 0), 1);
            Due.is("none is there", x.put(5, 0, 7), -13);
            Due.is("none is there", x.element(5, 0), Long.MIN_VALUE);
            Due.is("none of none", x.shift(5, 0, 5, 0, 0), 0);
            Due.is("one of none", x.shift(5, 0, 5, 0, 1), -13);
        }
    }

    /** No ACT of the document runs 24 bodies: the longest one is seen whole. */
    private static void trace() {
        ThirtyThreeBelow x = Camp.made();
        x.act(Camp.TUBE, 3, Integer.MAX_VALUE);
        int[] want = {2, 30, 10, 20, 1, 40, 11, 30, 10, 20, 1};
        Due.is("bodies that ran", x.count(11), want.length);
        for (int i = 0; i < want.length; i++) {
            Due.is("trace(" + i + ")", x.trace(i), want[i]);
        }
        Due.is("no more", x.trace(want.length), BAD);
    }
}
