/** Promises 1 to 10: a new object, cells, bodies. */
public final class MountainTest {
    public static void main(String[] args) {
        newObject();
        cells();
        wrongCells();
        plainBodies();
        holes();
        shelter();
        men();
        ofBodies();
        fullOfBodies();
        Due.end();
    }

    private static void newObject() {
        for (int column = 0; column < 32; column++) {
            ThirtyThreeBelow anew = new ThirtyThreeBelow();
            for (int yard = 1; yard <= 60; yard++) {
                Due.is("HARD at first", anew.ofCell(100 * column + yard, 0), 3);
                Due.is("OPEN at first", anew.ofCell(100 * column + yard, 1), 0);
            }
        }
        ThirtyThreeBelow x = new ThirtyThreeBelow();
        for (int what = 0; what <= 11; what++) {
            Due.is("count(" + what + ") at first", x.count(what), 0);
        }
        Due.is("no body", x.ofBody(0, 0), ThirtyThreeBelow.VOID);
        Due.is("no spoons", x.below(0), 0);
        Due.is("SPEED at first", x.speed(0, 10), 20);
        Due.is("SPEED at first", x.speed(2, 10), 20);
        Due.is("SPREAD at first", x.spread(3), 2);
        Due.is("BAD", ThirtyThreeBelow.BAD, -1);
        Due.is("NOT", ThirtyThreeBelow.NOT, -2);
        Due.is("FULL", ThirtyThreeBelow.FULL, -3);
        Due.is("VOID", ThirtyThreeBelow.VOID, -2000000000);
    }

    private static void cells() {
        ThirtyThreeBelow x = new ThirtyThreeBelow();
        Due.is("hard", x.hard(1, 9), 3);
        Due.is("hard again", x.hard(1, 1), 9);
        Due.is("hard last cell", x.hard(3160, 4), 3);
        Due.is("ofCell", x.ofCell(3160, 0), 4);
        Due.is("ofCell first", x.ofCell(1, 0), 1);
        Due.is("neighbour", x.ofCell(101, 0), 3);
        Due.is("neighbour", x.ofCell(2, 0), 3);
        Due.is("open first cell", x.open(1, 1), 0);
        Due.is("ofCell first", x.ofCell(1, 1), 1);
        Due.is("close it", x.open(1, 0), 1);
        Due.is("open", x.open(60, 1), 0);
        Due.is("open again", x.open(60, 1), 1);
        Due.is("ofCell open", x.ofCell(60, 1), 1);
        Due.is("ofCell next column", x.ofCell(101, 1), 0);
        Due.is("close", x.open(60, 0), 1);
        Due.is("ofCell closed", x.ofCell(60, 1), 0);
        Due.is("HARD stays", x.ofCell(60, 0), 3);
    }

    private static void wrongCells() {
        ThirtyThreeBelow x = new ThirtyThreeBelow();
        int[] bad = {-1, 0, 61, 99, 100, 161, 3100, 3161, 3200, 3201, -99, -101, Integer.MIN_VALUE, Integer.MAX_VALUE};
        for (int cell : bad) {
            Due.is("hard(" + cell + ")", x.hard(cell, 1), -1);
            Due.is("open(" + cell + ")", x.open(cell, 1), -1);
            Due.is("ofCell(" + cell + ")", x.ofCell(cell, 0), -1);
            Due.is("move(" + cell + ")", x.move(cell, 5), -1);
        }
        Due.is("hard 0", x.hard(1, 0), -1);
        Due.is("hard 10", x.hard(1, 10), -1);
        Due.is("open 2", x.open(1, 2), -1);
        Due.is("open -1", x.open(1, -1), -1);
        Due.is("ofCell 2", x.ofCell(1, 2), -1);
        Due.is("ofCell -1", x.ofCell(1, -1), -1);
        Due.is("nothing changed", x.ofCell(1, 0), 3);
        Due.is("nothing changed", x.ofCell(1, 1), 0);
    }

    private static void plainBodies() {
        ThirtyThreeBelow x = new ThirtyThreeBelow();
        Due.is("BODY", x.body(0), 0);
        Due.is("WAY", x.body(1), 1);
        Due.is("kind 2", x.body(2), -1);
        Due.is("kind 7", x.body(7), -1);
        Due.is("kind -1", x.body(-1), -1);
        Due.is("next number", x.body(1), 2);
        Due.is("KIND", x.ofBody(1, 0), 1);
        Due.is("KIND", x.ofBody(0, 0), 0);
        Due.is("count", x.count(0), 3);
        Due.is("a WAY has no more", x.ofBody(1, 1), ThirtyThreeBelow.VOID);
        Due.is("a BODY has no more", x.ofBody(0, 4), ThirtyThreeBelow.VOID);
    }

    private static void holes() {
        ThirtyThreeBelow x = new ThirtyThreeBelow();
        for (int kind = 2; kind <= 5; kind++) {
            Due.is("hole", x.hole(kind, 3199), kind - 2);
            Due.is("KIND", x.ofBody(kind - 2, 0), kind);
            Due.is("column", x.ofBody(kind - 2, 1), 31);
            Due.is("WIDTH", x.ofBody(kind - 2, 2), 99);
        }
        Due.is("first column, least width", x.hole(2, 1), 4);
        Due.is("column", x.ofBody(4, 1), 0);
        Due.is("column in truth", x.ofBody(4, 4), 0);
        Due.is("column in truth", x.ofBody(0, 4), 31);
        int[] bad = {0, 100, -1, 3200, 3201, -101, 3100, Integer.MIN_VALUE, Integer.MAX_VALUE};
        for (int what : bad) {
            Due.is("hole(2, " + what + ")", x.hole(2, what), -1);
        }
        Due.is("kind 1", x.hole(1, 101), -1);
        Due.is("kind 6", x.hole(6, 101), -1);
        Due.is("kind -1", x.hole(-1, 101), -1);
        Due.is("holes", x.count(1), 5);
        Due.is("bodies", x.count(0), 5);
    }

    private static void shelter() {
        ThirtyThreeBelow x = new ThirtyThreeBelow();
        int[] bad = {-1, 100, 301, 32, 3132, 3200, 3231, -100, Integer.MIN_VALUE, Integer.MAX_VALUE};
        for (int span : bad) {
            Due.is("shelter(" + span + ")", x.shelter(span, 5), -1);
        }
        Due.is("yard 0", x.shelter(1, 0), -1);
        Due.is("yard 61", x.shelter(1, 61), -1);
        Due.is("none stands", x.count(0), 0);
        Due.is("shelter", x.shelter(3, 60), 0);
        Due.is("BAD ahead of NOT", x.shelter(301, 60), -1);
        Due.is("another", x.shelter(3, 60), -2);
        Due.is("KIND", x.ofBody(0, 0), 6);
        Due.is("a", x.ofBody(0, 1), 0);
        Due.is("b", x.ofBody(0, 2), 3);
        Due.is("yard", x.ofBody(0, 3), 60);
        Due.is("HOLDS", x.ofBody(0, 4), 0);
        Due.is("no more", x.ofBody(0, 5), ThirtyThreeBelow.VOID);
        Due.is("bodies", x.count(0), 1);
        ThirtyThreeBelow y = new ThirtyThreeBelow();
        Due.is("one column", y.shelter(3131, 1), 0);
        Due.is("a", y.ofBody(0, 1), 31);
        ThirtyThreeBelow z = new ThirtyThreeBelow();
        Due.is("the first column", z.shelter(0, 1), 0);
        Due.is("b", z.ofBody(0, 2), 0);
    }

    private static void men() {
        ThirtyThreeBelow x = new ThirtyThreeBelow();
        Due.is("man", x.man(999, 99), 0);
        Due.is("man", x.man(0, 0), 1);
        Due.is("man", x.man(5, 47), 2);
        Due.is("strength 1000", x.man(1000, 0), -1);
        Due.is("strength -1", x.man(-1, 0), -1);
        Due.is("what 100", x.man(1, 100), -1);
        Due.is("what -1", x.man(1, -1), -1);
        Due.is("KIND", x.ofBody(2, 0), 7);
        Due.is("STRENGTH", x.ofBody(2, 1), 5);
        Due.is("SKILL", x.ofBody(2, 2), 4);
        Due.is("ILL", x.ofBody(2, 3), 7);
        Due.is("below", x.ofBody(2, 4), 1);
        Due.is("no more", x.ofBody(2, 5), ThirtyThreeBelow.VOID);
        Due.is("men below", x.count(3), 3);
        Due.is("ill", x.ill(2, 9), 7);
        Due.is("ill again", x.ill(2, 0), 9);
        Due.is("ILL", x.ofBody(2, 3), 0);
        Due.is("SKILL stays", x.ofBody(2, 2), 4);
        Due.is("ill 10", x.ill(2, 10), -1);
        Due.is("ill -1", x.ill(2, -1), -1);
        Due.is("ill of none", x.ill(3, 1), -1);
        Due.is("ill of -1", x.ill(-1, 1), -1);
        x.body(0);
        Due.is("ill of a BODY", x.ill(3, 1), -1);
    }

    private static void ofBodies() {
        ThirtyThreeBelow x = new ThirtyThreeBelow();
        x.hole(4, 1020);
        Due.is("yards bored", x.ofBody(0, 3), 0);
        Due.is("THROUGH", x.ofBody(0, 5), 0);
        Due.is("minutes", x.ofBody(0, 6), 0);
        Due.is("told", x.ofBody(0, 7), 0);
        x.yard(0, 1);
        x.yard(0, 1);
        Due.is("told", x.ofBody(0, 7), 2);
        x.set(1, 0);
        x.hours(2);
        Due.is("yards bored", x.ofBody(0, 3), 2);
        Due.is("column where it begins", x.ofBody(0, 1), 10);
        Due.is("column in truth", x.ofBody(0, 4), 12);
        x.hours(1);
        Due.is("minutes", x.ofBody(0, 6), 60);
        Due.is("what 8", x.ofBody(0, 8), ThirtyThreeBelow.VOID);
        Due.is("what -1", x.ofBody(0, -1), ThirtyThreeBelow.VOID);
        Due.is("body 1", x.ofBody(1, 0), ThirtyThreeBelow.VOID);
        Due.is("body -1", x.ofBody(-1, 0), ThirtyThreeBelow.VOID);
        Due.is("body 120", x.ofBody(120, 0), ThirtyThreeBelow.VOID);
    }

    private static void fullOfBodies() {
        ThirtyThreeBelow x = new ThirtyThreeBelow();
        for (int n = 0; n < 119; n++) {
            Due.is("body", x.body(n % 2), n);
        }
        Due.is("the last one", x.man(1, 1), 119);
        Due.is("body", x.body(0), -3);
        Due.is("hole", x.hole(2, 101), -3);
        Due.is("shelter", x.shelter(1, 1), -3);
        Due.is("man", x.man(1, 1), -3);
        Due.is("BAD ahead of FULL", x.body(2), -1);
        Due.is("BAD ahead of FULL", x.hole(2, 100), -1);
        Due.is("BAD ahead of FULL", x.shelter(201, 1), -1);
        Due.is("BAD ahead of FULL", x.man(-1, 1), -1);
        Due.is("bodies", x.count(0), 120);
        Due.is("holes", x.count(1), 0);
        Due.is("men", x.count(3), 1);
        ThirtyThreeBelow y = new ThirtyThreeBelow();
        y.shelter(1, 1);
        for (int n = 1; n < 120; n++) {
            y.body(0);
        }
        Due.is("NOT ahead of FULL", y.shelter(1, 1), -2);
    }
}
