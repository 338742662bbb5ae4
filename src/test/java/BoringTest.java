/** Promises 11 to 18: machines, boring, logs, where a hole can be. */
public final class BoringTest {
    public static void main(String[] args) {
        speeds();
        sets();
        broken();
        told();
        boredByMinutes();
        openYards();
        through();
        leansHeld();
        logs();
        lost();
        refusedLogs();
        spreads();
        Due.end();
    }

    private static void speeds() {
        ThirtyThreeBelow x = new ThirtyThreeBelow();
        Due.is("speed", x.speed(1, 60), 20);
        Due.is("speed", x.speed(1, 10), 60);
        Due.is("speed of another", x.speed(2, 11), 20);
        Due.is("speed", x.speed(1, 11), 10);
        Due.is("9", x.speed(0, 9), -1);
        Due.is("61", x.speed(0, 61), -1);
        Due.is("machine 3", x.speed(3, 20), -1);
        Due.is("machine -1", x.speed(-1, 20), -1);
        Due.is("stays", x.speed(0, 20), 20);
    }

    private static void sets() {
        ThirtyThreeBelow x = new ThirtyThreeBelow();
        x.hole(2, 101);
        x.hole(5, 101);
        x.body(1);
        Due.is("set", x.set(0, 1), -1);
        Due.is("set, the same", x.set(0, 1), 1);
        Due.is("another is on it", x.set(2, 1), ThirtyThreeBelow.VOID);
        Due.is("set", x.set(0, 0), 1);
        Due.is("now free", x.set(2, 1), -1);
        Due.is("none", x.set(2, -1), 1);
        Due.is("none, too", x.set(1, -1), -1);
        Due.is("none again", x.set(2, -1), -1);
        Due.is("a WAY", x.set(1, 2), ThirtyThreeBelow.VOID);
        Due.is("no body", x.set(1, 3), ThirtyThreeBelow.VOID);
        Due.is("-2", x.set(1, -2), ThirtyThreeBelow.VOID);
        Due.is("machine 3", x.set(3, 1), ThirtyThreeBelow.VOID);
        Due.is("machine -1", x.set(-1, -1), ThirtyThreeBelow.VOID);
        Due.is("where it stayed", x.set(0, -1), 0);
    }

    private static void broken() {
        ThirtyThreeBelow x = new ThirtyThreeBelow();
        x.hole(2, 101);
        x.set(0, 0);
        Due.is("breaks", x.breaks(0, 3), 1);
        x.hours(3);
        Due.is("till 3, that one too", x.ofBody(0, 6), 0);
        x.hours(1);
        Due.is("4", x.ofBody(0, 6), 60);
        Due.is("ahead of now", x.breaks(0, 3), -1);
        Due.is("1700", x.breaks(0, 1700), -1);
        Due.is("machine 3", x.breaks(3, 9), -1);
        Due.is("machine -1", x.breaks(-1, 9), -1);
        Due.is("now", x.breaks(0, 4), 1);
        x.hours(1);
        Due.is("5", x.ofBody(0, 6), 120);
        Due.is("1699", x.breaks(0, 1699), 1);
        x.hours(2);
        Due.is("none", x.ofBody(0, 6), 120);
        Due.is("told anew", x.breaks(0, 8), 1);
        x.hours(2);
        Due.is("one", x.ofBody(0, 6), 180);
    }

    private static void told() {
        ThirtyThreeBelow x = new ThirtyThreeBelow();
        x.hole(2, 101);
        x.body(0);
        for (int n = 1; n <= 60; n++) {
            Due.is("yard", x.yard(0, n % 5 - 2), n);
        }
        Due.is("61", x.yard(0, 0), -3);
        Due.is("BAD ahead of FULL", x.yard(0, 3), -1);
        Due.is("lean -3", x.yard(0, -3), -1);
        Due.is("a BODY", x.yard(1, 0), -1);
        Due.is("none", x.yard(2, 0), -1);
        Due.is("-1", x.yard(-1, 0), -1);
        Due.is("told", x.ofBody(0, 7), 60);
    }

    private static void boredByMinutes() {
        ThirtyThreeBelow x = new ThirtyThreeBelow();
        x.hole(2, 501);
        x.set(1, 0);
        x.speed(1, 35);
        x.hard(501, 2);
        x.hard(602, 4);
        x.yard(0, 0);
        x.yard(0, 1);
        x.hours(1);
        Due.is("70 are wanted", x.ofBody(0, 3), 0);
        Due.is("minutes", x.ofBody(0, 6), 60);
        Due.is("met ahead of it", x.met(0, 1), -1);
        x.hours(1);
        Due.is("bored", x.ofBody(0, 3), 1);
        Due.is("minutes", x.ofBody(0, 6), 50);
        Due.is("column", x.ofBody(0, 4), 5);
        x.set(1, -1);
        x.hours(9);
        Due.is("no MACHINE", x.ofBody(0, 6), 50);
        x.speed(1, 10);
        Due.is("set again", x.set(1, 0), -1);
        x.hours(1);
        Due.is("bored as SPEED is then", x.ofBody(0, 3), 2);
        Due.is("minutes", x.ofBody(0, 6), 70);
        Due.is("column", x.ofBody(0, 4), 6);
        x.hours(2);
        Due.is("it waits, minutes are kept", x.ofBody(0, 6), 190);
        x.yard(0, 0);
        Due.is("not ahead of an HOUR", x.ofBody(0, 3), 2);
        x.breaks(1, 15);
        x.hours(1);
        Due.is("not while it is BROKEN", x.ofBody(0, 3), 2);
        Due.is("rock", x.met(0, 2), 0);
        Due.is("yard 0", x.met(0, 0), -1);
        Due.is("yard 3", x.met(0, 3), -1);
        Due.is("no hole", x.met(1, 1), -1);
        Due.is("bored in all", x.count(8), 2);
    }

    private static void openYards() {
        ThirtyThreeBelow x = new ThirtyThreeBelow();
        x.hole(2, 301);
        x.set(0, 0);
        x.speed(0, 60);
        for (int yard = 1; yard <= 3; yard++) {
            x.open(300 + yard, 1);
            x.hard(300 + yard, 9);
        }
        Due.yards(x, 0, 5);
        x.breaks(0, 2);
        x.hours(2);
        Due.is("an OPEN yard wants its HOUR", x.ofBody(0, 3), 0);
        x.hours(1);
        Due.is("three, for none", x.ofBody(0, 3), 3);
        Due.is("minutes", x.ofBody(0, 6), 60);
        Due.is("OPEN", x.met(0, 3), 1);
        x.open(303, 0);
        Due.is("MET stays", x.met(0, 3), 1);
        x.hours(2);
        Due.is("60 times 3", x.ofBody(0, 3), 4);
        Due.is("minutes", x.ofBody(0, 6), 0);
    }

    private static void through() {
        ThirtyThreeBelow x = new ThirtyThreeBelow();
        x.hole(3, 1001);
        x.hole(2, 801);
        x.shelter(911, 2);
        x.open(1002, 1);
        x.set(0, 0);
        x.set(1, 1);
        x.speed(0, 10);
        x.speed(1, 10);
        Due.yards(x, 0, 4);
        Due.yards(x, 1, 3);
        x.hours(1);
        Due.is("THROUGH", x.ofBody(0, 5), 1);
        Due.is("no yard behind", x.ofBody(0, 3), 2);
        Due.is("the SHELTER also where it is OPEN", x.met(0, 2), 2);
        Due.is("ahead of it rock", x.met(0, 1), 0);
        Due.is("minutes", x.ofBody(0, 6), 30);
        Due.is("told", x.ofBody(0, 7), 4);
        Due.is("beside it", x.ofBody(1, 5), 0);
        Due.is("beside it", x.met(1, 2), 0);
        Due.is("THROUGH in all", x.count(2), 1);
        x.hours(2);
        Due.is("minutes are kept for it", x.ofBody(0, 6), 150);
        Due.is("no yard", x.ofBody(0, 3), 2);
        Due.is("a yard of it", x.yard(0, 0), -2);
        Due.is("BAD ahead of NOT", x.yard(0, 3), -1);
        ThirtyThreeBelow y = new ThirtyThreeBelow();
        y.shelter(911, 1);
        for (int column = 8; column <= 12; column++) {
            int hole = Due.throughAtOnce(y, 2, column);
            Due.is("columns a to b", y.ofBody(hole, 5), column >= 9 && column <= 11 ? 1 : 0);
        }
    }

    private static void leansHeld() {
        ThirtyThreeBelow x = new ThirtyThreeBelow();
        x.hole(2, 101);
        x.hole(2, 3001);
        x.set(0, 0);
        x.set(1, 1);
        int[] leans = {-2, -2, 1, 2};
        for (int lean : leans) {
            x.yard(0, lean);
            x.yard(1, -lean);
        }
        int[] left = {0, 0, 1, 3};
        int[] right = {31, 31, 30, 28};
        for (int n = 0; n < 4; n++) {
            x.hours(1);
            Due.is("held at 0", x.ofBody(0, 4), left[n]);
            Due.is("held at 31", x.ofBody(1, 4), right[n]);
        }
    }

    private static ThirtyThreeBelow bored(int column, int yards) {
        ThirtyThreeBelow x = new ThirtyThreeBelow();
        x.hole(2, 100 * column + 1);
        x.set(0, 0);
        Due.yards(x, 0, yards);
        Due.hours(x, yards);
        return x;
    }

    private static void isAt(ThirtyThreeBelow x, int yard, int least, int most) {
        Due.is("LEAST at " + yard, x.canBe(0, yard, 0), least);
        Due.is("MOST at " + yard, x.canBe(0, yard, 1), most);
    }

    private static void logs() {
        ThirtyThreeBelow x = bored(10, 5);
        isAt(x, 1, 8, 12);
        isAt(x, 5, 0, 20);
        x.row(2, 4, 4);
        x.put(2, 0, -3);
        x.put(2, 1, 5);
        x.put(2, 3, 7);
        x.blank(2, 2);
        x.spread(0);
        Due.is("log", x.log(0, 2, 0, 1, 4), 4);
        isAt(x, 1, 9, 10);
        isAt(x, 2, 10, 11);
        isAt(x, 3, 11, 12);
        isAt(x, 4, 13, 14);
        isAt(x, 5, 11, 16);
        Due.is("a blank without a yard ahead", x.log(0, 2, 2, 1, 1), 1);
        isAt(x, 1, 10, 10);
        isAt(x, 2, 11, 12);
        Due.is("behind what has no LOG", x.log(0, 2, 4, 3, 1), 0);
        isAt(x, 3, 9, 14);
        Due.is("a blank behind it", x.log(0, 2, 2, 4, 1), 1);
        isAt(x, 4, 9, 14);
        Due.is("as the LOG of the yard ahead", x.log(0, 2, 2, 3, 1), 1);
        isAt(x, 3, 12, 13);
        isAt(x, 4, 12, 13);
        x.row(3, 3, 1);
        x.put(3, 0, -9999);
        Due.is("a float", x.log(0, 3, 0, 1, 1), 1);
        isAt(x, 4, 0, 0);
        x.put(3, 0, 9999);
        x.log(0, 3, 0, 1, 1);
        isAt(x, 5, 31, 31);
        Due.is("yard 6", x.canBe(0, 6, 0), -1);
        Due.is("yard 0", x.canBe(0, 0, 0), -1);
        Due.is("what 2", x.canBe(0, 1, 2), -1);
        Due.is("what -1", x.canBe(0, 1, -1), -1);
        Due.is("no hole", x.canBe(1, 1, 0), -1);
    }

    private static void lost() {
        ThirtyThreeBelow x = bored(10, 6);
        x.spread(0);
        x.row(0, 3, 6);
        Due.is("six", x.log(0, 0, 0, 1, 6), 6);
        isAt(x, 6, 10, 10);
        Due.is("the row ends", x.log(0, 0, 4, 2, 3), 2);
        isAt(x, 3, 10, 10);
        isAt(x, 4, 8, 12);
        isAt(x, 6, 4, 16);
        Due.is("logged anew", x.log(0, 0, 0, 4, 3), 3);
        isAt(x, 6, 10, 10);
        Due.is("the row is missing", x.log(0, 1, 0, 5, 2), 0);
        isAt(x, 4, 10, 10);
        isAt(x, 6, 6, 14);
        Due.is("ahead of the row", x.log(0, 0, -1, 2, 6), 0);
        isAt(x, 1, 10, 10);
        isAt(x, 2, 8, 12);
        Due.is("far behind the row", x.log(0, 0, Integer.MAX_VALUE, 1, 60), 0);
        isAt(x, 1, 8, 12);
        Due.is("an empty row", x.row(0, 4, 0), 1);
        Due.is("none came", x.log(0, 0, 0, 1, 1), 0);
        ThirtyThreeBelow y = bored(10, 60);
        y.spread(0);
        y.row(0, 3, 60);
        Due.is("all", y.log(0, 0, 0, 1, 60), 60);
        isAt(y, 60, 10, 10);
        y.put(0, 0, 4);
        y.put(0, 1, 4);
        Due.is("behind 60 is left aside", y.log(0, 0, 0, 59, 60), 2);
        isAt(y, 60, 12, 12);
        isAt(y, 59, 11, 11);
        y.row(1, 3, 1);
        Due.is("quietly, also where the row ends", y.log(0, 1, 0, 60, 2), 1);
        isAt(y, 60, 11, 11);
        y.blank(1, 0);
        Due.is("a blank at 60", y.log(0, 1, 0, 60, 1), 1);
        isAt(y, 60, 12, 12);
        Due.is("LOST from 60", y.log(0, 2, 0, 60, 1), 0);
        isAt(y, 59, 11, 11);
        isAt(y, 60, 9, 13);
        y.log(0, 0, 0, 59, 2);
        Due.is("LOST from 59", y.log(0, 2, 0, 59, 1), 0);
        isAt(y, 60, 6, 14);
        y.put(1, 0, 8);
        y.log(0, 1, 0, 1, 1);
        isAt(y, 2, 12, 12);
        y.blank(1, 0);
        Due.is("a blank at 2", y.log(0, 1, 0, 2, 1), 1);
        isAt(y, 2, 14, 14);
    }

    private static void refusedLogs() {
        ThirtyThreeBelow x = bored(10, 2);
        x.body(0);
        x.spread(0);
        x.row(0, 3, 3);
        x.log(0, 0, 0, 1, 3);
        for (int sort = 0; sort <= 2; sort++) {
            x.row(1, sort, 3);
            Due.is("sort " + sort, x.log(0, 1, 0, 1, 1), -12);
        }
        x.keep(1, 0);
        Due.is("a BODY", x.log(0, 1, 0, 1, 1), -12);
        Due.is("BAD ahead of -12", x.log(0, 1, 0, 61, 1), -1);
        Due.is("yard 0", x.log(0, 0, 0, 0, 1), -1);
        Due.is("n 0", x.log(0, 0, 0, 1, 0), -1);
        Due.is("n 61", x.log(0, 0, 0, 1, 61), -1);
        Due.is("shelf 6", x.log(0, 6, 0, 1, 1), -1);
        Due.is("shelf -1", x.log(0, -1, 0, 1, 1), -1);
        Due.is("a BODY's log", x.log(1, 0, 0, 1, 1), -1);
        Due.is("nobody's log", x.log(2, 0, 0, 1, 1), -1);
        isAt(x, 2, 10, 10);
    }

    private static void spreads() {
        ThirtyThreeBelow x = bored(10, 3);
        x.row(0, 3, 3);
        x.log(0, 0, 0, 1, 3);
        Due.is("spread", x.spread(1), 2);
        isAt(x, 1, 9, 11);
        isAt(x, 3, 9, 11);
        Due.is("spread", x.spread(8), 1);
        isAt(x, 1, 8, 12);
        isAt(x, 3, 4, 16);
        Due.is("spread 9", x.spread(9), -1);
        Due.is("spread -1", x.spread(-1), -1);
        Due.is("spread", x.spread(0), 8);
    }
}
