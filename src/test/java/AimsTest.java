/** Promises 39 to 46: aims, races, the capsule. */
public final class AimsTest {
    private static long seed = 69L;

    public static void main(String[] args) {
        aims();
        rocks();
        refusedAims();
        ties();
        aimsOfAll();
        races();
        racesThatAreRun();
        capsule();
        deepCapsule();
        refusedCapsule();
        manZero();
        allBodies();
        raises();
        Due.end();
    }

    private static int dice(int n) {
        seed = seed * 6364136223846793005L + 1442695040888963407L;
        return (int) ((seed >>> 33) % n);
    }

    private static void aims() {
        ThirtyThreeBelow x = new ThirtyThreeBelow();
        Due.is("column -1", x.aim(-1, 0), -1);
        Due.is("column 32", x.aim(32, 0), -1);
        Due.is("misses -1", x.aim(0, -1), -1);
        Due.is("misses 10", x.aim(0, 10), -1);
        Due.is("none", x.aimed(1, 1, 1), -1);
        for (int n = 1; n <= 6; n++) {
            Due.is("aim", x.aim(n == 1 ? 0 : 31, n == 6 ? 0 : 9), n);
        }
        Due.is("a seventh", x.aim(1, 1), -3);
        Due.is("BAD ahead of FULL", x.aim(32, 1), -1);
        Due.is("the least", x.aimed(4, 60, 1), 60 * 20);
        Due.is("place", x.aimedAt(0, 0), 5);
        Due.is("MACHINE", x.aimedAt(0, 1), 0);
        Due.is("none any more", x.aimed(4, 60, 1), -1);
        Due.is("the latest stays", x.aimedAt(0, 0), 5);
    }

    private static void rocks() {
        ThirtyThreeBelow x = new ThirtyThreeBelow();
        for (int r = 0; r < 4; r++) {
            for (int i = 0; i < 6; i++) {
                Due.is("1 at first", x.rock(r, i, 1 + (r * 6 + i) % 9), 1);
            }
        }
        for (int r = 0; r < 4; r++) {
            for (int i = 0; i < 6; i++) {
                Due.is("rock", x.rock(r, i, 1), 1 + (r * 6 + i) % 9);
            }
        }
        Due.is("row -1", x.rock(-1, 0, 1), -1);
        Due.is("row 4", x.rock(4, 0, 1), -1);
        Due.is("place -1", x.rock(0, -1, 1), -1);
        Due.is("place 6", x.rock(0, 6, 1), -1);
        Due.is("0", x.rock(0, 0, 0), -1);
        Due.is("10", x.rock(0, 0, 10), -1);
        x.rock(2, 0, 7);
        x.aim(4, 0);
        Due.is("the first two rows", x.aimed(2, 1, 1), 20);
        x.aim(4, 0);
        Due.is("the worst of three", x.aimed(3, 1, 1), 140);
    }

    private static void refusedAims() {
        ThirtyThreeBelow x = new ThirtyThreeBelow();
        Due.is("no aimed", x.aimedAt(0, 0), -1);
        x.aim(4, 0);
        Due.is("rows 0", x.aimed(0, 1, 1), -1);
        Due.is("rows 5", x.aimed(5, 1, 1), -1);
        Due.is("yard 0", x.aimed(1, 0, 1), -1);
        Due.is("yard 61", x.aimed(1, 61, 1), -1);
        Due.is("machines 0", x.aimed(1, 1, 0), -1);
        Due.is("machines 3", x.aimed(1, 1, 3), -1);
        Due.is("BAD ahead of NOT", x.aimed(1, 61, 2), -1);
        Due.is("fewer than two", x.aimed(1, 1, 2), -2);
        Due.is("no aimed", x.aimedAt(0, 0), -1);
        Due.is("columns stay", x.aim(4, 0), 2);
        Due.is("TWO", x.aimed(1, 1, 2), 20);
        Due.is("the second", x.aimedAt(1, 0), 1);
        Due.is("the second", x.aimedAt(1, 1), 1);
        Due.is("a third", x.aimedAt(2, 0), -1);
        Due.is("-1", x.aimedAt(-1, 0), -1);
        Due.is("what 2", x.aimedAt(0, 2), -1);
        Due.is("what -1", x.aimedAt(0, -1), -1);
        x.aim(4, 0);
        Due.is("NOT", x.aimed(1, 1, 2), -2);
        Due.is("the latest stays", x.aimedAt(1, 0), 1);
        x.aimed(1, 1, 1);
        Due.is("just one", x.aimedAt(1, 0), -1);
    }

    private static void ties() {
        ThirtyThreeBelow x = new ThirtyThreeBelow();
        x.speed(0, 20);
        x.speed(1, 10);
        x.speed(2, 10);
        x.aim(4, 1);
        x.aim(4, 0);
        x.aim(4, 0);
        Due.is("one", x.aimed(1, 10, 1), 100);
        Due.is("the lesser place", x.aimedAt(0, 0), 1);
        Due.is("the lesser MACHINE", x.aimedAt(0, 1), 1);
        x.aim(4, 1);
        x.aim(4, 1);
        x.aim(4, 0);
        Due.is("two", x.aimed(1, 10, 2), 200);
        Due.is("place of the lesser MACHINE", x.aimedAt(0, 0), 0);
        Due.is("then of the other one", x.aimedAt(1, 0), 1);
        Due.is("MACHINES", x.aimedAt(0, 1), 1);
        Due.is("MACHINES", x.aimedAt(1, 1), 2);
        x.aim(4, 0);
        x.aim(4, 0);
        x.speed(1, 20);
        Due.is("two", x.aimed(1, 10, 2), 200);
        Due.is("then the lesser MACHINES", x.aimedAt(0, 1), 0);
        Due.is("then the lesser MACHINES", x.aimedAt(1, 1), 1);
    }

    /** Against all ways, the tie's rule as a key. */
    private static void aimsOfAll() {
        for (int run = 0; run < 400; run++) {
            ThirtyThreeBelow x = new ThirtyThreeBelow();
            int n = 1 + dice(6);
            int[] misses = new int[n];
            int[] hard = new int[n];
            int[] pace = new int[3];
            int rows = 1 + dice(4);
            for (int m = 0; m < 3; m++) {
                pace[m] = 10 + dice(run % 2 == 0 ? 3 : 51);
                x.speed(m, pace[m]);
            }
            for (int p = 0; p < n; p++) {
                misses[p] = dice(run % 2 == 0 ? 2 : 10);
                x.aim(dice(32), misses[p]);
                for (int r = 0; r < 4; r++) {
                    int v = 1 + dice(run % 2 == 0 ? 2 : 9);
                    x.rock(r, p, v);
                    hard[p] = r < rows ? Math.max(hard[p], v) : hard[p];
                }
            }
            int yards = 1 + dice(60);
            compareAim(x, n, misses, hard, pace, rows * 100 + yards);
        }
    }

    private static void compareAim(ThirtyThreeBelow x, int n, int[] misses, int[] hard, int[] pace, int what) {
        int rows = what / 100;
        int yards = what % 100;
        boolean two = n >= 2 && dice(2) == 0;
        long least = Long.MAX_VALUE;
        for (int p = 0; p < n; p++) {
            for (int m = 0; m < 3; m++) {
                long first = (long) (misses[p] + 1) * yards * pace[m] * hard[p];
                if (!two) {
                    least = Math.min(least, first * 10000 + p * 1000 + m);
                    continue;
                }
                for (int q = 0; q < n; q++) {
                    for (int o = m + 1; o < 3; o++) {
                        long other = (long) (misses[q] + 1) * yards * pace[o] * hard[q];
                        if (p != q) {
                            least = Math.min(least, Math.max(first, other) * 10000 + p * 1000 + q * 100 + m * 10 + o);
                        }
                    }
                }
            }
        }
        Due.is("aimed", x.aimed(rows, yards, two ? 2 : 1), least / 10000);
        Due.is("place", x.aimedAt(0, 0), least / 1000 % 10);
        if (two) {
            Due.is("other place", x.aimedAt(1, 0), least / 100 % 10);
            Due.is("MACHINE", x.aimedAt(0, 1), least / 10 % 10);
            Due.is("other MACHINE", x.aimedAt(1, 1), least % 10);
        } else {
            Due.is("MACHINE", x.aimedAt(0, 1), least % 10);
        }
    }

    private static void races() {
        ThirtyThreeBelow x = new ThirtyThreeBelow();
        Due.is("no HOLE", x.race(0, 5, 1), -2);
        x.hole(2, 101);
        x.set(1, 0);
        Due.is("machine 3", x.race(3, 5, 1), -1);
        Due.is("machine -1", x.race(-1, 5, 1), -1);
        Due.is("yard 0", x.race(1, 0, 1), -1);
        Due.is("yard 61", x.race(1, 61, 1), -1);
        Due.is("hard 0", x.race(1, 1, 0), -1);
        Due.is("hard 10", x.race(1, 1, 10), -1);
        Due.is("BAD ahead of NOT", x.race(0, 61, 1), -1);
        Due.is("one HOUR at least", x.race(1, 1, 1), 1);
        Due.is("60 just", x.race(1, 3, 1), 1);
        Due.is("80", x.race(1, 4, 1), 2);
        Due.is("far", x.race(1, 60, 9), 180);
        x.speed(1, 60);
        Due.is("farthest", x.race(1, 60, 9), 540);
        x.yard(0, 0);
        x.hours(4);
        Due.is("bored", x.ofBody(0, 3), 1);
        Due.is("minutes", x.ofBody(0, 6), 60);
        Due.is("there", x.race(1, 1, 1), -2);
        Due.is("minutes kept are enough", x.race(1, 2, 1), 5);
        Due.is("minutes kept and one HOUR", x.race(1, 2, 2), 5);
        Due.is("and two", x.race(1, 2, 3), 6);
        x.breaks(1, 10);
        Due.is("none up to 10", x.race(1, 2, 2), 11);
        Due.is("none up to 10", x.race(1, 2, 3), 12);
        Due.is("enough, while it is BROKEN", x.race(1, 2, 1), 11);
        x.hours(6);
        Due.is("the last HOUR of it", x.race(1, 2, 2), 11);
        Due.is("enough, in the last HOUR of it", x.race(1, 2, 1), 11);
        x.breaks(1, 1699);
        Due.is("enough, BROKEN to the end", x.race(1, 2, 1), 1700);
        x.breaks(1, 10);
        x.hours(3);
        Due.is("behind it", x.race(1, 2, 9), 13 + 5);
        ThirtyThreeBelow y = new ThirtyThreeBelow();
        y.shelter(31, 1);
        y.hole(2, 101);
        y.set(0, 1);
        y.yard(1, 0);
        y.hours(1);
        Due.is("THROUGH", y.race(0, 9, 1), -2);
        y.speed(1, 11);
        int other = y.hole(2, 101);
        y.set(1, other);
        Due.is("121 minutes", y.race(1, 11, 1), 4);
        y.breaks(1, 9);
        Due.is("121 minutes, BROKEN", y.race(1, 11, 1), 12);
        y.breaks(1, 2);
        y.hours(3);
        Due.is("minutes", y.ofBody(other, 6), 120);
        y.breaks(1, 9);
        Due.is("one minute is missing", y.race(1, 11, 1), 10);
    }

    /** What race() answers is the HOUR in which the yard is bored, when the HOURS do go by. */
    private static void racesThatAreRun() {
        for (int run = 0; run < 60; run++) {
            ThirtyThreeBelow x = new ThirtyThreeBelow();
            int hard = 1 + dice(3);
            int yard = 1 + dice(8);
            for (int y = 1; y <= yard; y++) {
                x.hard(500 + y, hard);
            }
            x.speed(1, 10 + dice(51));
            int hole = x.hole(2, 501);
            x.set(1, hole);
            int ahead = dice(yard + 1);
            Due.yards(x, hole, ahead);
            Due.hours(x, dice(30));
            if (dice(3) > 0) {
                x.breaks(1, x.count(4) + dice(12));
            }
            Due.hours(x, dice(6));
            int answer = x.race(1, yard, hard);
            Due.yards(x, hole, yard - ahead);
            if (x.ofBody(hole, 3) >= yard) {
                Due.is("there", answer, -2);
                continue;
            }
            for (int h = 0; h < 90 && x.ofBody(hole, 3) < yard; h++) {
                x.hours(1);
            }
            Due.is("race of run " + run, answer, x.count(4));
        }
    }

    private static ThirtyThreeBelow withMen() {
        ThirtyThreeBelow x = new ThirtyThreeBelow();
        x.shelter(31, 1);
        Due.throughAtOnce(x, 4, 3);
        x.man(50, 10);
        x.man(70, 30);
        x.man(60, 30);
        x.man(90, 20);
        return x;
    }

    private static void ups(ThirtyThreeBelow x, int... men) {
        for (int i = 0; i < men.length; i++) {
            Due.is("up(" + i + ")", x.up(i, 0), men[i]);
        }
        Due.is("no more", x.up(men.length, 0), -1);
    }

    private static void capsule() {
        ThirtyThreeBelow x = withMen();
        Due.is("no capsule yet", x.up(0, 0), -1);
        Due.is("no capsule yet", x.raise(5), -2);
        Due.is("capsule", x.capsule(1), 5);
        ups(x, 2, 3, 4, 5);
        Due.is("when", x.up(0, 1), 2);
        Due.is("when", x.up(3, 1), 5);
        Due.is("what 2", x.up(0, 2), -1);
        Due.is("what -1", x.up(0, -1), -1);
        Due.is("-1", x.up(-1, 0), -1);
        Due.text(x, 1, 1, "k");
        x.capsule(1);
        ups(x, 3, 4, 5, 2);
        Due.text(x, 11, 1, "-s");
        x.capsule(1);
        ups(x, 2, 4, 3, 5);
        Due.text(x, 1, 2, "s");
        x.capsule(1);
        ups(x, 2, 4, 3, 5);
        x.hours(1);
        Due.is("later", x.capsule(1), 6);
        ups(x, 5, 3, 4, 2);
        Due.text(x, 1, 2, "s=60?65536*32767+65535;s=50?-65536*32767-65535-1");
        x.capsule(1);
        ups(x, 4, 3, 5, 2);
    }

    private static void deepCapsule() {
        int[] yards = {19, 20, 39, 40, 59, 60};
        int[] each = {1, 2, 2, 3, 3, 4};
        for (int n = 0; n < yards.length; n++) {
            ThirtyThreeBelow x = new ThirtyThreeBelow();
            x.shelter(31, yards[n]);
            x.hole(5, 901);
            x.set(0, 1);
            Due.yards(x, 1, yards[n]);
            x.man(50, 10);
            x.man(50, 10);
            Due.hours(x, yards[n]);
            Due.is("1, and 1 for each full 20 yards", x.capsule(1), yards[n] + 2 * each[n]);
            Due.is("when", x.up(0, 1), yards[n] + each[n]);
            Due.is("too early", x.raise(each[n] - 1), 0);
            Due.is("one", x.raise(2 * each[n] - 1), 1);
            Due.is("the other", x.raise(2 * each[n]), 1);
        }
    }

    private static void refusedCapsule() {
        ThirtyThreeBelow x = new ThirtyThreeBelow();
        x.shelter(31, 1);
        int tube = Due.throughAtOnce(x, 3, 3);
        int hole = Due.throughAtOnce(x, 2, 3);
        int shaft = Due.throughAtOnce(x, 4, 3);
        int other = x.hole(4, 401);
        Due.is("nobody is below", x.capsule(shaft), -2);
        x.man(50, 0);
        Due.is("not THROUGH", x.capsule(other), -2);
        Due.is("a TUBE", x.capsule(tube), -1);
        Due.is("a HOLE", x.capsule(hole), -1);
        Due.is("the SHELTER", x.capsule(0), -1);
        Due.is("none", x.capsule(99), -1);
        Due.is("-1", x.capsule(-1), -1);
        Due.is("none was asked", x.raise(0), -2);
        Due.is("BAD ahead of NOT", x.raise(200), -1);
        Due.is("capsule", x.capsule(shaft), 4);
        Due.is("refused", x.capsule(other), -2);
        Due.is("the latest stays", x.up(0, 0), 5);
    }

    private static void manZero() {
        ThirtyThreeBelow x = new ThirtyThreeBelow();
        x.man(50, 0);
        x.shelter(31, 1);
        int shaft = Due.throughAtOnce(x, 4, 3);
        Due.is("capsule", x.capsule(shaft), 2);
        Due.is("MAN 0", x.up(0, 0), 0);
        Due.is("raise", x.raise(1), 1);
        Due.is("up", x.ofBody(0, 4), 0);
    }

    private static void allBodies() {
        ThirtyThreeBelow x = new ThirtyThreeBelow();
        x.shelter(31, 1);
        int shaft = Due.throughAtOnce(x, 4, 3);
        for (int n = 2; n < 120; n++) {
            Due.is("man", x.man(n, 0), n);
        }
        Due.text(x, 1, 1, "s");
        Due.is("capsule", x.capsule(shaft), 1 + 118);
        Due.is("the strongest", x.up(0, 0), 119);
        Due.is("the weakest", x.up(117, 0), 2);
        Due.is("no more", x.up(118, 0), -1);
        x.spoons(500);
        x.map(31, 1);
        Due.is("no map is wrong", x.known(3), 1);
        x.hours(23);
        Due.is("all eat", x.count(9), 118);
        Due.is("all last", x.last(0, 9), 0);
        Due.is("raise", x.raise(117), 117);
        Due.is("the last one", x.raise(118), 1);
        Due.is("nobody is below", x.count(3), 0);
    }

    private static void raises() {
        ThirtyThreeBelow x = withMen();
        x.capsule(1);
        Due.is("-1", x.raise(-1), -1);
        Due.is("200", x.raise(200), -1);
        Due.is("0", x.raise(0), 0);
        Due.is("below", x.count(3), 4);
        Due.is("two", x.raise(2), 2);
        Due.is("below", x.count(3), 2);
        Due.is("up", x.ofBody(2, 4), 0);
        Due.is("up", x.ofBody(3, 4), 0);
        Due.is("below", x.ofBody(4, 4), 1);
        Due.is("HOURS do not go by", x.count(4), 1);
        Due.is("none more", x.raise(2), 0);
        ups(x, 2, 3, 4, 5);
        Due.is("anew", x.capsule(1), 3);
        ups(x, 4, 5);
        x.spoons(20);
        x.hours(23);
        Due.is("who is up does not eat", x.count(9), 2);
        Due.is("nor grow weak", x.ofBody(2, 1), 50);
        Due.is("from then, as of the latest", x.raise(199), 2);
        Due.is("nobody is below", x.capsule(1), -2);
        Due.is("nobody lasts", x.last(0, 0), -2);
        Due.is("nobody", x.best(0), -2);
        Due.is("says for one who is up", x.says(0, 2), 1);
        Due.is("ill of one who is up", x.ill(2, 5), 0);
    }
}
