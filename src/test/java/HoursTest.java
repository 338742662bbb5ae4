/** Promises 27 to 31: hours, food, rock that moves. */
public final class HoursTest {
    public static void main(String[] args) {
        counts();
        stops();
        breakfast();
        eatsHeld();
        strengthHeld();
        ordersOfBelow();
        spoons();
        moves();
        holds();
        last();
        best();
        Due.end();
    }

    private static void counts() {
        ThirtyThreeBelow x = new ThirtyThreeBelow();
        Due.is("0", x.hours(0), -1);
        Due.is("-1", x.hours(-1), -1);
        Due.is("49", x.hours(49), -1);
        Due.is("max", x.hours(Integer.MAX_VALUE), -1);
        Due.is("48", x.hours(48), 48);
        Due.is("1", x.hours(1), 49);
        Due.is("HOUR", x.count(4), 49);
        Due.hours(x, 1699 - 49 - 5);
        Due.is("beyond", x.hours(6), -1);
        Due.is("HOUR", x.count(4), 1694);
        Due.is("to the end", x.hours(5), 1699);
        Due.is("no more", x.hours(1), -1);
    }

    private static void stops() {
        ThirtyThreeBelow x = new ThirtyThreeBelow();
        x.hole(2, 101);
        x.hole(2, 201);
        x.set(0, 0);
        x.set(1, 1);
        Due.text(x, 2, 0, "h=3");
        Due.text(x, 12, 0, "1");
        x.open(101, 1);
        x.hours(2);
        Due.is("BELOW's does not count", x.ofBody(0, 6), 120);
        x.yard(0, 0);
        x.hours(1);
        Due.is("STOP", x.ofBody(0, 6), 120);
        Due.is("STOP of all", x.ofBody(1, 6), 120);
        Due.is("no yard", x.ofBody(0, 3), 0);
        x.hours(1);
        Due.is("goes on", x.ofBody(0, 6), 180);
        Due.is("a yard", x.ofBody(0, 3), 1);
        Due.text(x, 2, 6, "-1");
        x.hours(1);
        Due.is("not yet from 6", x.ofBody(0, 6), 240);
        x.hours(2);
        Due.is("what is not 0 stops", x.ofBody(0, 6), 240);
        ThirtyThreeBelow y = new ThirtyThreeBelow();
        y.man(50, 99);
        y.hole(2, 101);
        y.set(0, 1);
        Due.text(y, 2, 0, "s+k+i");
        y.hours(2);
        Due.is("STOP is of no MAN", y.ofBody(1, 6), 120);
    }

    private static void breakfast() {
        ThirtyThreeBelow x = new ThirtyThreeBelow();
        x.man(100, 0);
        x.man(100, 0);
        x.man(100, 0);
        x.spoons(5);
        x.hours(23);
        Due.is("not ahead of the DAY", x.ofBody(0, 1), 100);
        x.hours(1);
        Due.is("EATS is 1", x.ofBody(0, 1), 96);
        Due.is("SPOONS", x.below(0), 2);
        Due.is("eaten", x.count(9), 3);
        x.hours(24);
        Due.is("by numbers", x.ofBody(1, 1), 92);
        Due.is("as far as there are", x.ofBody(2, 1), 90);
        Due.is("SPOONS", x.below(0), 0);
        Due.is("eaten", x.count(9), 5);
        x.spoons(50);
        x.hours(48);
        Due.is("two DAYS", x.ofBody(2, 1), 82);
        Due.is("eaten", x.count(9), 11);
    }

    private static void eatsHeld() {
        ThirtyThreeBelow x = new ThirtyThreeBelow();
        x.man(100, 10);
        x.man(100, 20);
        x.man(100, 30);
        x.spoons(100);
        Due.text(x, 10, 0, "k=1?12;k=2?-4;9");
        x.hours(24);
        Due.is("9 at most", x.ofBody(0, 1), 112);
        Due.is("0 at least", x.ofBody(1, 1), 94);
        Due.is("9", x.ofBody(2, 1), 112);
        Due.is("SPOONS", x.below(0), 82);
    }

    private static void strengthHeld() {
        ThirtyThreeBelow x = new ThirtyThreeBelow();
        x.man(5, 0);
        x.man(6, 0);
        x.man(998, 0);
        x.man(3, 1);
        x.spoons(4);
        Due.text(x, 10, 0, "s>900?4;0");
        x.hours(24);
        Due.is("0 at least", x.ofBody(0, 1), 0);
        Due.is("0", x.ofBody(1, 1), 0);
        Due.is("999 at most", x.ofBody(2, 1), 999);
        Due.is("0 at least", x.ofBody(3, 1), 0);
        ThirtyThreeBelow y = new ThirtyThreeBelow();
        y.man(3, 0);
        y.spoons(9);
        y.hours(24);
        Due.is("both at once", y.ofBody(0, 1), 0);
    }

    private static void ordersOfBelow() {
        ThirtyThreeBelow x = new ThirtyThreeBelow();
        x.man(100, 0);
        x.man(100, 0);
        x.spoons(30);
        Due.text(x, 0, 0, "7");
        Due.text(x, 10, 24, "f>28?2;f+d*3-28");
        x.hours(24);
        Due.is("BELOW's", x.ofBody(0, 1), 98);
        Due.is("f as it is then, d of the new DAY", x.ofBody(1, 1), 100);
        Due.is("SPOONS", x.below(0), 25);
        x.shelter(31, 1);
        int hole = x.hole(2, 501);
        x.set(0, hole);
        x.speed(0, 10);
        x.yard(hole, 0);
        x.breaks(0, 47);
        x.hours(24);
        Due.is("THROUGH in this HOUR", x.ofBody(hole, 5), 1);
        Due.is("made last below", x.inForce(10, 48, 48), 1);
        Due.text(x, 0, 48, "5");
        x.hours(24);
        Due.is("ABOVE's is heard", x.count(9), 5 + 3 + 10);
        ThirtyThreeBelow y = new ThirtyThreeBelow();
        y.man(100, 0);
        y.spoons(30);
        y.shelter(31, 1);
        Due.text(y, 0, 0, "4");
        y.hole(2, 501);
        y.set(0, 2);
        y.speed(0, 10);
        y.yard(2, 0);
        y.breaks(0, 23);
        y.hours(24);
        Due.is("heard in the HOUR in which it is THROUGH", y.count(9), 4);
    }

    private static void spoons() {
        ThirtyThreeBelow x = new ThirtyThreeBelow();
        Due.is("spoons", x.spoons(9999), 0);
        Due.is("spoons", x.spoons(0), 9999);
        Due.is("-1", x.spoons(-1), -1);
        Due.is("10000", x.spoons(10000), -1);
        Due.is("spoons", x.spoons(4), 0);
        Due.is("below", x.below(0), 4);
    }

    private static void moves() {
        ThirtyThreeBelow x = new ThirtyThreeBelow();
        x.hours(2);
        x.open(105, 1);
        x.open(205, 1);
        Due.is("now", x.move(105, 2), -1);
        Due.is("1700", x.move(105, 1700), -1);
        Due.is("move", x.move(105, 3), 1);
        Due.is("move", x.move(205, 4), 2);
        x.hours(1);
        Due.is("not OPEN", x.ofCell(105, 1), 0);
        Due.is("HARD", x.ofCell(105, 0), 9);
        Due.is("not yet", x.ofCell(205, 1), 1);
        Due.is("not yet", x.ofCell(205, 0), 3);
        x.hard(105, 2);
        x.hours(1);
        Due.is("now", x.ofCell(205, 0), 9);
        Due.is("just once", x.ofCell(105, 0), 2);
        for (int n = 3; n <= 60; n++) {
            Due.is("move", x.move(101, 1699), n);
        }
        Due.is("61", x.move(101, 1699), -3);
        Due.is("BAD ahead of FULL", x.move(101, 4), -1);
        x.hours(1);
        ThirtyThreeBelow y = new ThirtyThreeBelow();
        Due.is("the first cell", y.move(1, 1), 1);
        y.hole(2, 101);
        y.set(0, 0);
        y.open(101, 1);
        y.move(101, 1);
        y.yard(0, 0);
        y.hours(1);
        Due.is("bored ahead of the MOVE", y.met(0, 1), 1);
        Due.is("the first cell", y.ofCell(1, 0), 9);
    }

    private static void holds() {
        int[] cells = {305, 405, 505, 605, 705, 404, 406};
        int[] want = {0, 1, 1, 1, 0, 0, 0};
        for (int n = 0; n < cells.length; n++) {
            ThirtyThreeBelow x = new ThirtyThreeBelow();
            x.shelter(406, 5);
            x.move(cells[n], 2);
            x.hours(1);
            Due.is("not yet", x.ofBody(0, 4), 0);
            x.hours(1);
            Due.is("HOLDS by " + cells[n], x.ofBody(0, 4), want[n]);
            Due.is("the cell", x.ofCell(cells[n], 0), 9);
            x.hours(3);
            Due.is("for good", x.ofBody(0, 4), want[n]);
        }
    }

    private static void last() {
        ThirtyThreeBelow x = new ThirtyThreeBelow();
        Due.is("nobody", x.last(5, 5), -2);
        Due.is("BAD ahead of NOT", x.last(-1, 5), -1);
        x.man(100, 0);
        x.man(60, 0);
        Due.is("strength 1000", x.last(1000, 0), -1);
        Due.is("spoons 10", x.last(0, 10), -1);
        Due.is("spoons -1", x.last(0, -1), -1);
        Due.is("6 a DAY", x.last(0, 0), 9);
        Due.is("above, not at", x.last(54, 0), 0);
        Due.is("above", x.last(53, 0), 1);
        Due.is("nobody eats", x.last(0, 9), 9);
        x.spoons(8);
        Due.is("by numbers", x.last(53, 9), 1);
        Due.is("enough for two DAYS", x.last(50, 2), 2);
        Due.is("enough for two DAYS", x.last(49, 2), 3);
        x.spoons(9999);
        Due.is("60 at most", x.last(50, 3), 60);
        Due.is("60 at most", x.last(50, 9), 60);
        Due.is("not above at first", x.last(60, 9), 0);
        Due.is("nothing is eaten", x.below(0), 9999);
        Due.is("STRENGTH stays", x.ofBody(0, 1), 100);
        Due.is("0 spoons, 999", x.last(999, 0), 0);
        ThirtyThreeBelow y = new ThirtyThreeBelow();
        y.man(999, 0);
        y.spoons(9 * 30);
        Due.is("held at 999", y.last(999 - 6 * 30 - 1, 9), 60);
        Due.is("held at 999", y.last(999 - 6 * 30, 9), 59);
    }

    private static void best() {
        ThirtyThreeBelow x = new ThirtyThreeBelow();
        Due.is("nobody", x.best(5), -2);
        Due.is("BAD ahead of NOT", x.best(1000), -1);
        Due.is("-1", x.best(-1), -1);
        x.man(100, 0);
        x.man(60, 0);
        Due.is("no spoons", x.best(0), 0);
        x.spoons(9999);
        Due.is("the least of several", x.best(50), 3);
        Due.is("from the end too", x.best(0), 3);
        x.spoons(60);
        int found = x.best(30);
        for (int each = 0; each <= 9; each++) {
            Due.so("greatest", x.last(30, each) < x.last(30, found) || each >= found && x.last(30, each) <= x.last(30, found));
        }
        x.spoons(10);
        Due.is("nobody keeps it", x.best(100), 0);
        Due.is("999", x.best(999), 0);
        ThirtyThreeBelow y = new ThirtyThreeBelow();
        y.man(20, 0);
        y.man(999, 0);
        y.spoons(9);
        Due.is("all for the weaker", y.last(0, 9), 6);
        Due.is("one is not his", y.last(0, 8), 5);
        Due.is("9", y.best(0), 9);
    }
}
