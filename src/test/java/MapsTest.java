/** Promises 19 to 22: maps, which are wrong, and the shelter by them. */
public final class MapsTest {
    public static void main(String[] args) {
        maps();
        olds();
        wrongByRock();
        wrongByOpen();
        wrongByShelter();
        firstOfSeveral();
        atTheEdges();
        known();
        Due.end();
    }

    private static void maps() {
        ThirtyThreeBelow x = new ThirtyThreeBelow();
        int[] bad = {-1, 100, 301, 32, 3132, 3200, Integer.MIN_VALUE, Integer.MAX_VALUE};
        for (int span : bad) {
            Due.is("map(" + span + ")", x.map(span, 5), -1);
        }
        Due.is("yard 0", x.map(1, 0), -1);
        Due.is("yard 61", x.map(1, 61), -1);
        for (int n = 0; n < 8; n++) {
            Due.is("map", x.map(31, 1 + n), n);
        }
        Due.is("a ninth", x.map(31, 1), -3);
        Due.is("BAD ahead of FULL", x.map(31, 0), -1);
        Due.is("maps", x.count(5), 8);
        ThirtyThreeBelow y = new ThirtyThreeBelow();
        Due.is("the first column", y.map(0, 1), 0);
        Due.is("b", y.known(1), 0);
    }

    private static void olds() {
        ThirtyThreeBelow x = new ThirtyThreeBelow();
        Due.is("no map", x.old(0, 101), -1);
        x.map(1, 1);
        x.map(1, 1);
        for (int n = 1; n <= 40; n++) {
            Due.is("old", x.old(1, 100 * (n % 32) + n), n);
        }
        Due.is("41", x.old(1, 59), -3);
        Due.is("also told ahead of FULL", x.old(1, 101), -1);
        Due.is("the other map's own list", x.old(0, 101), 1);
        Due.is("also told", x.old(0, 101), -1);
        Due.is("cell 0", x.old(0, 0), -1);
        Due.is("cell 61", x.old(0, 61), -1);
        Due.is("cell 3201", x.old(0, 3201), -1);
        Due.is("map 2", x.old(2, 101), -1);
        Due.is("map -1", x.old(-1, 101), -1);
        Due.is("last cell", x.old(0, 3160), 2);
        Due.is("also told", x.old(0, 3160), -1);
        Due.is("first cell", x.old(0, 1), 3);
        Due.is("also told", x.old(0, 1), -1);
        Due.is("far right", x.old(0, 3002), 4);
        Due.is("also told", x.old(0, 3002), -1);
        Due.is("the same yard", x.old(0, 202), 5);
        Due.is("the same yard", x.old(0, 502), 6);
        Due.is("of the mountain nothing is told", x.ofCell(101, 1), 0);
    }

    /** Column 10, two yards; after it spread 0 and LOGS of 0: at each yard just column 10. */
    private static ThirtyThreeBelow sure(boolean open, boolean shelter) {
        ThirtyThreeBelow x = new ThirtyThreeBelow();
        x.hole(2, 1001);
        if (open) {
            x.open(1002, 1);
        }
        if (shelter) {
            x.shelter(1010, 2);
        }
        x.set(0, 0);
        Due.yards(x, 0, 2);
        x.hours(2);
        x.spread(0);
        x.row(0, 3, 2);
        x.log(0, 0, 0, 1, 2);
        return x;
    }

    private static void wrongByRock() {
        ThirtyThreeBelow x = sure(false, false);
        x.map(1, 9);
        Due.is("rock, as told", x.wrong(0), -2);
        x.old(0, 1102);
        Due.is("another column", x.wrong(0), -2);
        x.old(0, 1002);
        Due.is("rock where it is OPEN", x.wrong(0), 2);
        x.spread(1);
        Due.is("not if it can be elsewhere", x.wrong(0), -2);
        x.old(0, 902);
        Due.is("all from LEAST to MOST", x.wrong(0), 2);
        x.map(911, 2);
        Due.is("rock where the SHELTER is", x.wrong(1), 2);
        x.map(910, 2);
        Due.is("OPEN or the SHELTER", x.wrong(2), -2);
        x.old(2, 1102);
        Due.is("OPEN or the SHELTER", x.wrong(2), 2);
        x.map(911, 3);
        Due.is("another yard", x.wrong(3), -2);
        Due.is("map 4", x.wrong(4), -1);
        Due.is("map -1", x.wrong(-1), -1);
    }

    private static void wrongByOpen() {
        ThirtyThreeBelow x = sure(true, false);
        x.map(1, 9);
        Due.is("OPEN where none is told", x.wrong(0), 2);
        x.map(1010, 2);
        Due.is("by its list alone", x.wrong(1), 2);
        x.old(0, 1002);
        Due.is("told", x.wrong(0), -2);
        x.map(1, 9);
        x.old(2, 1102);
        Due.is("another column", x.wrong(2), 2);
        x.spread(1);
        Due.is("within reach", x.wrong(2), -2);
        x.old(1, 1003);
        Due.is("another yard", x.wrong(1), 2);
    }

    private static void wrongByShelter() {
        ThirtyThreeBelow x = sure(false, true);
        x.map(1010, 2);
        Due.is("as told", x.wrong(0), -2);
        x.map(1010, 3);
        Due.is("another yard", x.wrong(1), 2);
        x.map(1112, 2);
        Due.is("another column", x.wrong(2), 2);
        x.spread(1);
        Due.is("within reach", x.wrong(2), -2);
        x.old(0, 1002);
        Due.is("OPEN by the list besides", x.wrong(0), -2);
        x.old(1, 1002);
        Due.is("OPEN is not the SHELTER", x.wrong(1), 2);
    }

    private static void firstOfSeveral() {
        ThirtyThreeBelow x = new ThirtyThreeBelow();
        x.body(0);
        x.hole(2, 2001);
        x.hole(2, 501);
        for (int yard = 1; yard <= 3; yard++) {
            x.open(500 + yard, 1);
            x.open(2000 + yard, yard == 3 ? 1 : 0);
        }
        x.map(1, 60);
        Due.is("nothing bored", x.wrong(0), -2);
        x.set(0, 2);
        Due.yards(x, 2, 3);
        Due.yards(x, 1, 3);
        x.hours(1);
        Due.is("HOLE 2", x.wrong(0), 201);
        x.set(1, 1);
        x.hours(3);
        Due.is("HOLE 1 is first", x.wrong(0), 103);
    }

    /** Eight yards without LOGS: from column 15 it can be anywhere, from 0 at the left, from 31 at the right. */
    private static void atTheEdges() {
        ThirtyThreeBelow x = new ThirtyThreeBelow();
        x.hole(2, 1501);
        x.set(0, 0);
        Due.yards(x, 0, 8);
        x.hours(8);
        x.map(131, 8);
        Due.is("column 0 is rock", x.wrong(0), -2);
        x.map(30, 8);
        Due.is("column 31 is rock", x.wrong(1), -2);
        x.map(31, 8);
        Due.is("no column is rock", x.wrong(2), 8);
        x.old(0, 8);
        Due.is("column 0 is OPEN", x.wrong(0), 8);
        x.old(1, 3108);
        Due.is("column 31 is OPEN", x.wrong(1), 8);
        ThirtyThreeBelow y = new ThirtyThreeBelow();
        y.hole(2, 1);
        y.hole(2, 3101);
        y.set(0, 0);
        y.yard(0, 0);
        y.hours(1);
        y.map(2, 1);
        Due.is("columns 0 to 2", y.wrong(0), 1);
        y.map(1, 1);
        Due.is("column 2 is rock", y.wrong(1), -2);
        y.map(2, 2);
        Due.is("another yard", y.wrong(2), -2);
        y.set(0, 1);
        y.yard(1, 0);
        y.hours(1);
        y.map(2931, 1);
        Due.is("columns 29 to 31", y.wrong(3), 101);
        y.map(3031, 1);
        Due.is("column 29 is rock", y.wrong(4), -2);
    }

    private static void knowns(ThirtyThreeBelow x, int... want) {
        for (int what = 0; what < want.length; what++) {
            Due.is("known(" + what + ")", x.known(what), want[what]);
        }
    }

    private static void known() {
        ThirtyThreeBelow x = sure(true, false);
        knowns(x, -2, -2, -2, -2, -2, -2);
        Due.is("known(6)", x.known(6), -1);
        Due.is("known(-1)", x.known(-1), -1);
        x.map(1, 7);
        knowns(x, -2, -2, -2, -2, -2, -2);
        x.map(1015, 20);
        x.old(1, 1002);
        knowns(x, 10, 15, 20, 20, 10, 15);
        x.map(1220, 20);
        x.old(2, 1002);
        knowns(x, 10, 20, 20, 20, 12, 15);
        x.map(515, 20);
        x.old(3, 1002);
        knowns(x, 5, 20, 20, 20, 12, 15);
        x.map(1616, 20);
        x.old(4, 1002);
        knowns(x, 5, 20, 20, 20, -2, -2);
        x.map(31, 18);
        x.old(5, 1002);
        knowns(x, 0, 31, 18, 20, -2, -2);
        ThirtyThreeBelow y = new ThirtyThreeBelow();
        y.map(1015, 20);
        y.map(1015, 21);
        knowns(y, 10, 15, 20, 21, -2, -2);
        y.map(1012, 20);
        knowns(y, 10, 15, 20, 21, -2, -2);
        ThirtyThreeBelow z = new ThirtyThreeBelow();
        z.map(1015, 20);
        z.map(1520, 20);
        knowns(z, 10, 20, 20, 20, 15, 15);
    }
}
