import java.util.function.Consumer;
import java.util.function.ToLongFunction;

/** Of several refusals the one named first; each leaves all as it is. And what is NOT, by each of its reasons. */
public final class FirstNamedTest {
    private static final int BAD = ThirtyThreeBelow.BAD, NOT = ThirtyThreeBelow.NOT, FULL = ThirtyThreeBelow.FULL;

    public static void main(String[] args) {
        shelter();
        yard();
        log();
        nobodyBelow();
        noMaps();
        down();
        aimed();
        race();
        capsule();
        noneTold();
        shelves();
        Due.end();
    }

    private static void refused(String call, long want, ToLongFunction<ThirtyThreeBelow> refused) {
        Camp.refused(call, want, refused);
    }

    private static void refusedIn(Consumer<ThirtyThreeBelow> scene, String call, long want, ToLongFunction<ThirtyThreeBelow> refused) {
        Camp.refused(call, want, scene, refused);
    }

    private static void bodiesTo(ThirtyThreeBelow x, int n) {
        while (x.count(0) < n) {
            x.body(0);
        }
    }

    private static void shelter() {
        refused("a second SHELTER", NOT, x -> x.shelter(1113, 2));
        refused("another second SHELTER", NOT, x -> x.shelter(0, 60));
        refused("no span, and there is one", BAD, x -> x.shelter(1312, 2));
        refused("no yard, and there is one", BAD, x -> x.shelter(1113, 61));
        ThirtyThreeBelow full = Camp.made();
        bodiesTo(full, 120);
        Due.is("there is one, and FULL", full.shelter(1113, 2), NOT);
        Due.is("no span, there is one, and FULL", full.shelter(1312, 2), BAD);
        ThirtyThreeBelow none = new ThirtyThreeBelow();
        bodiesTo(none, 120);
        Due.is("FULL", none.shelter(1113, 2), FULL);
        Due.is("no span, and FULL", none.shelter(1312, 2), BAD);
        Due.is("still FULL, for there is none", none.shelter(1113, 2), FULL);
    }

    private static void yard() {
        refused("THROUGH", NOT, x -> x.yard(Camp.TUBE, 0));
        refused("no LEAN, and THROUGH", BAD, x -> x.yard(Camp.TUBE, 3));
        refused("no LEAN, and THROUGH", BAD, x -> x.yard(Camp.TUBE, -3));
        ThirtyThreeBelow x = new ThirtyThreeBelow();
        x.shelter(31, 1);
        x.hole(2, 101);
        Due.yards(x, 1, 60);
        Due.is("60 are told", x.yard(1, 0), FULL);
        Due.is("no LEAN, and 60 are told", x.yard(1, 3), BAD);
        x.set(0, 1);
        x.hours(1);
        Due.is("THROUGH, and 60 are told", x.yard(1, 0), NOT);
        Due.is("no LEAN, THROUGH, and 60 are told", x.yard(1, -3), BAD);
        Due.is("told", x.ofBody(1, 7), 60);
        Due.is("bored", x.ofBody(1, 3), 1);
    }

    private static void log() {
        refused("ints", -12, x -> x.log(Camp.HOLE, Camp.INTS, 0, 1, 1));
        refused("ints, from a place that is not there", -12, x -> x.log(Camp.HOLE, Camp.INTS, 99, 1, 1));
        refused("a BODY, from a place that is not there", -12, x -> x.log(Camp.HOLE, Camp.KEEPS_LINER, -1, 1, 1));
        refused("ints, and no HOLE", BAD, x -> x.log(Camp.MAN, Camp.INTS, 0, 1, 1));
        refused("ints, and yard 0", BAD, x -> x.log(Camp.HOLE, Camp.INTS, 0, 0, 1));
        refused("ints, and yard 61", BAD, x -> x.log(Camp.HOLE, Camp.INTS, 0, 61, 1));
        refused("ints, and n 0", BAD, x -> x.log(Camp.HOLE, Camp.INTS, 0, 1, 0));
        refused("ints, and n 61", BAD, x -> x.log(Camp.HOLE, Camp.KEEPS_LINER, 0, 1, 61));
        refused("nothing, and yard 0", BAD, x -> x.log(Camp.HOLE, Camp.EMPTY, 0, 0, 1));
    }

    private static void nobodyBelow() {
        Consumer<ThirtyThreeBelow> up = x -> x.raise(3);
        refusedIn(up, "last, nobody is below", NOT, x -> x.last(0, 0));
        refusedIn(up, "last, nobody is below, and no STRENGTH", BAD, x -> x.last(1000, 0));
        refusedIn(up, "last, nobody is below, and no SPOONS", BAD, x -> x.last(0, 10));
        refusedIn(up, "best, nobody is below", NOT, x -> x.best(999));
        refusedIn(up, "best, nobody is below, and no STRENGTH", BAD, x -> x.best(-1));
        refusedIn(up, "capsule, nobody is below", NOT, x -> x.capsule(Camp.SHAFT));
        refusedIn(up, "capsule by a TUBE, nobody is below", BAD, x -> x.capsule(Camp.TUBE));
        Consumer<ThirtyThreeBelow> twoUp = x -> x.raise(2);
        ThirtyThreeBelow one = Camp.made();
        twoUp.accept(one);
        Due.is("one is below", one.last(999, 0), 0);
        Due.is("one is below", one.best(999), 0);
        Due.is("one is below", one.capsule(Camp.SHAFT), Camp.HOUR + 1);
    }

    private static void noMaps() {
        for (int what = 0; what <= 5; what++) {
            int one = what;
            Due.is("no MAP is told", new ThirtyThreeBelow().known(one), NOT);
            refusedIn(x -> {
                x.old(2, 1001);
                x.spread(0);
                x.put(Camp.FLOATS, 0, 0);
                x.put(Camp.FLOATS, 1, 0);
                x.log(Camp.HOLE, Camp.FLOATS, 0, 1, 2);
                x.old(0, 1001);
            }, "all MAPS are WRONG", NOT, x -> x.known(one));
        }
        Due.is("no MAP is told, and no such what", new ThirtyThreeBelow().known(6), BAD);
        Due.is("no MAP is told, and no such what", new ThirtyThreeBelow().known(-1), BAD);
        Due.is("no MAP is told", new ThirtyThreeBelow().wrong(0), BAD);
        Due.is("no MAP is told", new ThirtyThreeBelow().old(0, 101), BAD);
    }

    private static void down() {
        Consumer<ThirtyThreeBelow> other = x -> x.hole(3, 2001);
        int tube = Camp.BODIES;
        refusedIn(other, "not THROUGH", NOT, x -> x.down(tube, 10, 1));
        refusedIn(other, "not THROUGH, and no thing", BAD, x -> x.down(tube, 9, 1));
        refusedIn(other, "not THROUGH, and no HOURS", BAD, x -> x.down(tube, 10, 10));
        Consumer<ThirtyThreeBelow> full = other.andThen(x -> {
            while (x.count(10) < 40) {
                x.down(Camp.TUBE, 11, 9);
            }
        });
        refusedIn(full, "40 are on the way", FULL, x -> x.down(Camp.TUBE, 10, 1));
        refusedIn(full, "not THROUGH, and 40 are on the way", NOT, x -> x.down(tube, 10, 1));
        refusedIn(full, "no thing, and 40 are on the way", BAD, x -> x.down(Camp.TUBE, 10000, 1));
        refusedIn(full, "a LINER, and 40 are on the way", BAD, x -> x.down(Camp.LINER, 10, 1));
    }

    private static void aimed() {
        ThirtyThreeBelow none = new ThirtyThreeBelow();
        Due.is("none is told", none.aimed(1, 1, 1), BAD);
        Due.is("none is told, so fewer than two", none.aimed(1, 1, 2), BAD);
        Consumer<ThirtyThreeBelow> one = x -> {
            x.aimed(1, 1, 1);
            x.aim(5, 3);
        };
        refusedIn(one, "fewer than two", NOT, x -> x.aimed(1, 60, 2));
        refusedIn(one, "fewer than two, and no rows", BAD, x -> x.aimed(5, 60, 2));
        refusedIn(one, "fewer than two, and yard 61", BAD, x -> x.aimed(1, 61, 2));
        refused("machines 3", BAD, x -> x.aimed(1, 60, 3));
        ThirtyThreeBelow x = new ThirtyThreeBelow();
        x.aim(5, 0);
        Due.is("NOT", x.aimed(1, 1, 2), NOT);
        Due.is("the column stays", x.aimed(1, 1, 1), 20);
        Due.is("and is none then", x.aimed(1, 1, 1), BAD);
    }

    private static void race() {
        Consumer<ThirtyThreeBelow> none = x -> x.set(0, -1);
        refusedIn(none, "no HOLE", NOT, x -> x.race(0, 60, 1));
        refusedIn(none, "no HOLE, and yard 0", BAD, x -> x.race(0, 0, 1));
        refusedIn(none, "no HOLE, and HARD 10", BAD, x -> x.race(0, 60, 10));
        refused("that is there", NOT, x -> x.race(0, 3, 9));
        refused("that is there, and HARD 0", BAD, x -> x.race(0, 3, 0));
        refused("THROUGH", NOT, x -> x.race(1, 60, 9));
    }

    private static void capsule() {
        refused("not THROUGH", NOT, x -> x.capsule(Camp.LINER));
        refused("a HOLE that is not THROUGH", BAD, x -> x.capsule(Camp.HOLE));
        ThirtyThreeBelow x = new ThirtyThreeBelow();
        Due.is("none was asked", x.raise(0), NOT);
        Due.is("none was asked", x.raise(199), NOT);
        Due.is("none was asked, and 200", x.raise(200), BAD);
        Due.is("none was asked, and -1", x.raise(-1), BAD);
        Due.is("none was asked", x.up(0, 0), BAD);
        x.hole(4, 101);
        x.man(5, 5);
        Due.is("refused", x.capsule(0), NOT);
        Due.is("so none was asked", x.raise(0), NOT);
        Due.is("so none was asked", x.up(0, 1), BAD);
    }

    private static void noneTold() {
        ThirtyThreeBelow x = new ThirtyThreeBelow();
        Due.is("order", x.order(), BAD);
        Due.is("ordered", x.ordered(0), BAD);
        Due.is("watched", x.watched(0, 0), BAD);
        Due.is("aimedAt", x.aimedAt(0, 0), BAD);
        Due.is("trace", x.trace(0), BAD);
        Due.is("inForce", x.inForce(0, 0, 0), NOT);
        Due.is("met", x.met(0, 1), BAD);
        Due.is("text of an empty TAPE", x.text(0, 0), -100);
        Consumer<ThirtyThreeBelow> spent = one -> one.order();
        refusedIn(spent, "order, none is told any more", BAD, one -> one.order());
        refusedIn(one -> one.aimed(1, 1, 1), "aimed, none is told any more", BAD, one -> one.aimed(1, 1, 1));
    }

    private static void shelves() {
        refused("no sort, and a size below 0", BAD, x -> x.row(0, 5, -1));
        refused("no SHELF, and a size below 0", BAD, x -> x.row(6, 0, -1));
        refused("a size below 0", -14, x -> x.row(0, 0, -1));
        refused("v, and no place", BAD, x -> x.put(Camp.FLOATS, 4, 10000));
        refused("v, and no place", BAD, x -> x.put(Camp.DOUBLES, -1, -10000));
        refused("no place", -13, x -> x.put(Camp.DOUBLES, 3, 9999));
        refused("nothing, and no place", -11, x -> x.put(Camp.EMPTY, -1, 1));
        refused("a BODY, and no place", -12, x -> x.put(Camp.KEEPS_LINER, -1, 1));
        refused("ints are never blank, and no place", -12, x -> x.blank(Camp.INTS, 2));
        refused("nothing, and no place", -11, x -> x.blank(Camp.EMPTY, -1));
        refused("no SHELF, and nothing", BAD, x -> x.shift(Camp.EMPTY, 0, 6, 0, 1));
        refused("nothing, and a BODY", -11, x -> x.shift(Camp.EMPTY, 0, Camp.KEEPS_LINER, 0, 1));
        refused("a BODY, and nothing", -11, x -> x.shift(Camp.KEEPS_LINER, 0, Camp.EMPTY, 0, 1));
        refused("a BODY, and no place", -12, x -> x.shift(Camp.KEEPS_LINER, -1, Camp.FLOATS, 0, 1));
        refused("unlike sorts, and no place", -12, x -> x.shift(Camp.FLOATS, 0, Camp.DOUBLES, 9, 1));
        refused("unlike sorts, of none", -12, x -> x.shift(Camp.FLOATS, 0, Camp.DOUBLES, 0, 0));
        refused("fewer than none", -13, x -> x.shift(Camp.FLOATS, 0, Camp.FLOATS, 0, -1));
        refused("no KIND, and nothing", BAD, x -> x.taken(Camp.EMPTY, 8));
        refused("no KIND, and a ROW", BAD, x -> x.taken(Camp.INTS, -1));
        refused("nothing", -11, x -> x.taken(Camp.EMPTY, 0));
        refused("a ROW", -12, x -> x.taken(Camp.INTS, 0));
        refused("a LINER is no TUBE", -12, x -> x.taken(Camp.KEEPS_LINER, 3));
        refused("no such BODY", BAD, x -> x.keep(0, Camp.BODIES));
        refused("no such SHELF, and no such BODY", BAD, x -> x.keep(6, -2));
    }
}
