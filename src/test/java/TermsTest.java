/** Sentences of the document's Terms that stand in no promise of their own, section by section, at their edges. */
public final class TermsTest {
    private static final int BAD = ThirtyThreeBelow.BAD, NOT = ThirtyThreeBelow.NOT;

    public static void main(String[] args) {
        oneHoleAtMost();
        justEnoughMinutes();
        asTheyAreThen();
        inOrder();
        openYardsWithoutHours();
        besideTheShelter();
        shelterToldLater();
        severalThrough();
        farCorners();
        cuts();
        heldCuts();
        lastHour();
        madeByThen();
        stopIsAskedFirst();
        meals();
        spoonsOfAMeal();
        strengths();
        moreThanTen();
        movesTwice();
        lateness();
        tubesAtTheEnd();
        longCapsule();
        capsuleAtTheEnd();
        firsts();
        Due.end();
    }

    private static void oneHoleAtMost() {
        ThirtyThreeBelow x = new ThirtyThreeBelow();
        for (int kind = 2; kind <= 5; kind++) {
            x.hole(kind, 101);
        }
        x.set(0, 0);
        x.hours(1);
        for (int hole = 1; hole <= 3; hole++) {
            Due.is("where it was", x.set(0, hole), hole - 1);
            x.hours(1);
        }
        for (int hole = 0; hole <= 3; hole++) {
            Due.is("one HOUR each", x.ofBody(hole, 6), 60);
        }
        Due.is("another MACHINE", x.set(2, 0), -1);
        x.hours(1);
        Due.is("minutes are kept for the HOLE", x.ofBody(0, 6), 120);
        Due.is("and for the other one", x.ofBody(3, 6), 120);
    }

    private static void justEnoughMinutes() {
        int[] speeds = {20, 21, 60, 10, 12, 13};
        int[] hards = {3, 3, 1, 6, 5, 5};
        for (int n = 0; n < speeds.length; n++) {
            int minutes = speeds[n] * hards[n];
            ThirtyThreeBelow x = new ThirtyThreeBelow();
            x.hole(2, 501);
            x.hard(501, hards[n]);
            x.speed(1, speeds[n]);
            x.set(1, 0);
            x.yard(0, 0);
            x.hours(1);
            Due.is(minutes + " minutes, bored", x.ofBody(0, 3), minutes <= 60 ? 1 : 0);
            Due.is(minutes + " minutes, kept", x.ofBody(0, 6), minutes <= 60 ? 60 - minutes : 60);
        }
        ThirtyThreeBelow x = new ThirtyThreeBelow();
        x.hole(2, 501);
        x.speed(1, 10);
        x.set(1, 0);
        for (int yard = 1; yard <= 9; yard++) {
            x.hard(500 + yard, 1);
            x.yard(0, 0);
        }
        x.hours(1);
        Due.is("six of nine in one HOUR", x.ofBody(0, 3), 6);
        x.hours(1);
        Due.is("all nine", x.ofBody(0, 3), 9);
        Due.is("minutes", x.ofBody(0, 6), 30);
    }

    private static void asTheyAreThen() {
        ThirtyThreeBelow x = new ThirtyThreeBelow();
        x.hole(2, 501);
        x.hole(2, 701);
        x.hole(2, 901);
        for (int m = 0; m < 3; m++) {
            x.set(m, m);
            x.yard(m, 0);
        }
        x.hard(501, 9);
        x.hours(1);
        Due.is("HARD as told behind yard()", x.ofBody(0, 3), 0);
        x.hard(501, 6);
        x.hours(1);
        Due.is("HARD as it is then", x.ofBody(0, 3), 1);
        Due.is("minutes", x.ofBody(0, 6), 0);
        Due.is("the others in the first HOUR", x.ofBody(1, 3), 1);
        x.yard(1, 1);
        x.open(802, 1);
        x.hard(802, 9);
        x.yard(2, -1);
        x.open(802, 0);
        x.open(802, 1);
        x.hours(1);
        Due.is("OPEN as it is then", x.ofBody(1, 3), 2);
        Due.is("none is taken", x.ofBody(1, 6), 120);
        Due.is("it met", x.met(1, 2), 1);
        Due.is("the other one came there too", x.met(2, 2), 1);
        x.open(802, 0);
        Due.is("MET as it was", x.met(2, 2), 1);
        x.yard(1, 0);
        x.open(803, 1);
        x.open(803, 0);
        x.hours(1);
        Due.is("rock again", x.met(1, 3), 0);
        Due.is("60 are taken", x.ofBody(1, 6), 120);
    }

    private static void inOrder() {
        ThirtyThreeBelow x = new ThirtyThreeBelow();
        x.hole(2, 501);
        x.set(0, 0);
        x.hard(501, 4);
        x.open(502, 1);
        x.hard(503, 1);
        Due.yards(x, 0, 3);
        x.hours(1);
        Due.is("80 are wanted, none behind comes ahead", x.ofBody(0, 3), 0);
        x.hours(1);
        Due.is("all three", x.ofBody(0, 3), 3);
        Due.is("minutes", x.ofBody(0, 6), 120 - 80 - 20);
        Due.is("the OPEN one", x.met(0, 2), 1);
    }

    private static void openYardsWithoutHours() {
        ThirtyThreeBelow x = new ThirtyThreeBelow();
        x.hole(2, 501);
        x.hole(2, 601);
        x.set(0, 0);
        x.hours(2);
        for (int yard = 1; yard <= 3; yard++) {
            x.open(500 + yard, 1);
            x.open(600 + yard, 1);
        }
        x.yard(0, 0);
        x.yard(1, 0);
        x.set(0, -1);
        x.hours(2);
        Due.is("without a MACHINE", x.ofBody(0, 3), 0);
        Due.is("without a MACHINE", x.ofBody(1, 3), 0);
        x.set(0, 0);
        Due.text(x, 2, 4, "h<7");
        x.hours(2);
        Due.is("STOP", x.ofBody(0, 3), 0);
        x.breaks(0, 8);
        x.hours(2);
        Due.is("BROKEN", x.ofBody(0, 3), 0);
        Due.is("minutes", x.ofBody(0, 6), 120);
        x.hours(1);
        Due.is("its 60 came", x.ofBody(0, 3), 1);
        Due.is("none is taken", x.ofBody(0, 6), 180);
        Due.is("the other one has none", x.ofBody(1, 3), 0);
    }

    private static void besideTheShelter() {
        for (int yard = 4; yard <= 6; yard++) {
            for (int column = 9; column <= 13; column++) {
                ThirtyThreeBelow x = new ThirtyThreeBelow();
                x.shelter(1012, yard);
                x.hole(2, 100 * column + 1);
                x.speed(0, 10);
                x.set(0, 1);
                Due.yards(x, 1, 7);
                x.hours(4);
                boolean in = column >= 10 && column <= 12;
                Due.is("THROUGH", x.ofBody(1, 5), in ? 1 : 0);
                Due.is("yards bored", x.ofBody(1, 3), in ? yard : 7);
                Due.is("MET ahead of it", x.met(1, yard - 1), 0);
                Due.is("MET there", x.met(1, yard), in ? 2 : 0);
                Due.is("MET behind it", x.met(1, yard + 1), in ? BAD : 0);
            }
        }
    }

    private static void shelterToldLater() {
        ThirtyThreeBelow x = new ThirtyThreeBelow();
        x.hole(2, 501);
        x.set(0, 0);
        Due.yards(x, 0, 2);
        x.hours(2);
        x.shelter(505, 2);
        x.hours(2);
        Due.is("MET as it was", x.met(0, 2), 0);
        Due.is("not THROUGH", x.ofBody(0, 5), 0);
        Due.is("none", x.count(2), 0);
        Due.is("it goes on", x.yard(0, 0), 3);
    }

    private static void severalThrough() {
        ThirtyThreeBelow x = new ThirtyThreeBelow();
        x.shelter(31, 1);
        for (int n = 0; n < 3; n++) {
            x.hole(2 + n, 100 * n + 1);
            x.set(n, 1 + n);
            x.yard(1 + n, 0);
        }
        x.breaks(2, 1);
        x.hours(1);
        Due.is("two at once", x.count(2), 2);
        x.hours(1);
        Due.is("and one", x.count(2), 3);
        Due.is("HOLES", x.count(1), 3);
        Due.is("yards", x.count(8), 3);
    }

    /** Column 0 and column 31, yard 1 and yard 60: cells, boring, logs, maps, moves, the shelter. */
    private static void farCorners() {
        int[] columns = {0, 31};
        for (int column : columns) {
            ThirtyThreeBelow x = new ThirtyThreeBelow();
            int first = 100 * column + 1;
            int last = 100 * column + 60;
            x.shelter(101 * column, 60);
            x.hole(2, 100 * column + 99);
            x.set(2, 1);
            x.speed(2, 10);
            x.open(first, 1);
            x.hard(last, 6);
            Due.yards(x, 1, 60);
            Due.is("far below", x.race(2, 60, 1), 10);
            x.hours(30);
            Due.is("the first yard", x.met(1, 1), 1);
            Due.is("58 of 30 minutes, and one of 60", x.ofBody(1, 6), 1800 - 58 * 30 - 60);
            Due.is("the last yard", x.met(1, 60), 2);
            Due.is("THROUGH", x.ofBody(1, 5), 1);
            x.spread(0);
            x.row(5, 3, 60);
            Due.is("all LOGS", x.log(1, 5, 0, 1, 60), 60);
            x.map(101 * column, 60);
            Due.is("OPEN is not told", x.wrong(0), 101);
            x.old(0, first);
            Due.is("as it is", x.wrong(0), NOT);
            Due.is("known", x.known(4), column);
            Due.is("known", x.known(3), 60);
            x.map(101 * column, 59);
            x.old(1, first);
            Due.is("rock where the SHELTER is", x.wrong(1), 159);
            x.map(101 * (31 - column), 60);
            x.old(2, first);
            Due.is("the SHELTER where it is not", x.wrong(2), 160);
            Due.is("a MOVE of the last cell", x.move(last, 31), 1);
            Due.is("a MOVE of the first cell", x.move(first, 31), 2);
            x.hours(1);
            Due.is("the last cell", x.ofCell(last, 0), 9);
            Due.is("the first cell", x.ofCell(first, 1), 0);
            Due.is("the SHELTER HOLDS", x.ofBody(0, 4), 1);
            Due.is("LOST from the last yard on", x.log(1, 0, 0, 60, 1), 0);
            Due.is("held", x.canBe(1, 60, column == 0 ? 0 : 1), column);
            Due.is("two columns more", x.canBe(1, 60, column == 0 ? 1 : 0), column == 0 ? 2 : 29);
        }
    }

    private static int[] canBe(int column, int spread, int... logs) {
        ThirtyThreeBelow x = new ThirtyThreeBelow();
        x.hole(2, 100 * column + 1);
        x.set(0, 0);
        Due.yards(x, 0, logs.length);
        Due.hours(x, logs.length);
        x.row(0, 4, logs.length);
        for (int i = 0; i < logs.length; i++) {
            x.put(0, i, logs[i]);
        }
        x.log(0, 0, 0, 1, logs.length);
        x.spread(spread);
        return new int[] {x.canBe(0, logs.length, 0), x.canBe(0, logs.length, 1)};
    }

    private static void cuts() {
        for (int quarters = -9; quarters <= 9; quarters++) {
            for (int spread = 0; spread <= 8; spread++) {
                int[] at = canBe(16, spread, quarters);
                Due.is("LEAST by " + quarters, at[0], (int) Math.floor(16 + (quarters - spread) / 4.0));
                Due.is("MOST by " + quarters, at[1], (int) Math.ceil(16 + (quarters + spread) / 4.0));
                int[] three = canBe(16, spread, quarters, 1, -quarters);
                Due.is("LEAST of three", three[0], (int) Math.floor(16 + (1 - 3 * spread) / 4.0));
                Due.is("MOST of three", three[1], (int) Math.ceil(16 + (1 + 3 * spread) / 4.0));
            }
        }
    }

    private static void heldCuts() {
        int[][] rows = {
            {0, 0, -1, 0, 0}, {0, 0, 1, 0, 1}, {0, 1, 0, 0, 1}, {31, 0, 1, 31, 31}, {31, 0, -1, 30, 31}, {31, 1, 0, 30, 31},
            {0, 0, 124, 31, 31}, {0, 0, 123, 30, 31}, {0, 0, 125, 31, 31}, {31, 0, -124, 0, 0}, {31, 0, -123, 0, 1},
            {31, 0, -125, 0, 0}, {0, 0, -9999, 0, 0}, {0, 0, 9999, 31, 31}, {31, 8, -9999, 0, 0}, {31, 8, 9999, 31, 31},
        };
        for (int[] row : rows) {
            int[] at = canBe(row[0], row[1], row[2]);
            Due.is("LEAST from " + row[0] + " by " + row[2], at[0], row[3]);
            Due.is("MOST from " + row[0] + " by " + row[2], at[1], row[4]);
        }
        int[] back = canBe(0, 0, -9999, 9999);
        Due.is("the sum, held at its end", back[0], 0);
        Due.is("the sum, held at its end", back[1], 0);
        int[] forth = canBe(10, 0, 9999, -9999, 2);
        Due.is("the sum, held at its end", forth[0], 10);
        Due.is("the sum, held at its end", forth[1], 11);
    }

    private static void lastHour() {
        ThirtyThreeBelow x = new ThirtyThreeBelow();
        x.hole(2, 501);
        x.man(999, 0);
        x.set(0, 0);
        Due.is("a MOVE in the last HOUR", x.move(101, 1699), 1);
        Due.hours(x, 1698);
        Due.is("behind now", x.move(102, 1699), 2);
        Due.is("now", x.move(102, 1698), BAD);
        Due.is("two HOURS are too many", x.hours(2), BAD);
        Due.is("HOUR", x.count(4), 1698);
        Due.is("minutes", x.ofBody(0, 6), 1698 * 60);
        Due.is("from the last HOUR on", Due.text(x, 0, 1699, "4"), 0);
        Due.is("the last HOUR", x.hours(1), 1699);
        Due.is("minutes", x.ofBody(0, 6), 1699 * 60);
        Due.is("moved", x.ofCell(101, 0), 9);
        Due.is("moved", x.ofCell(102, 0), 9);
        Due.is("meals, the last one in 1680", x.ofBody(1, 1), 999 - 6 * 70);
        for (int n = 1; n <= 48; n++) {
            Due.is("no HOUR more", x.hours(n), BAD);
        }
        Due.is("no MOVE more", x.move(101, 1699), BAD);
        Due.is("no MOVE more", x.move(101, 1700), BAD);
        Due.is("BROKEN now", x.breaks(0, 1699), 1);
        Due.is("BROKEN ahead of now", x.breaks(0, 1698), BAD);
        Due.is("a TEXT now", Due.text(x, 0, 1699, "5"), 1);
        Due.tape(x, "6");
        Due.is("a TEXT from an HOUR ahead of now", x.text(0, 1698), BAD);
        Due.is("THE TAPE stays", x.count(7), 1);
        Due.is("in force", x.inForce(0, 1699, 1699), 1);
        Due.is("says", x.says(0, 1), 5);
        Due.is("a race behind the end", x.race(0, 60, 9), 1700);
        x.hole(2, 601);
        x.set(0, 2);
        x.speed(0, 60);
        Due.is("the longest race", x.race(0, 60, 9), 1699 + 540);
    }

    private static void madeByThen() {
        ThirtyThreeBelow x = new ThirtyThreeBelow();
        x.shelter(31, 1);
        x.hours(3);
        Due.text(x, 1, 5, "1");
        x.hours(3);
        Due.is("THROUGH in 7", Due.throughAtOnce(x, 2, 3), 1);
        x.hours(2);
        Due.text(x, 11, 9, "2");
        x.hours(3);
        Due.text(x, 1, 20, "3");
        int[][] rows = {
            {1, 4, 9, NOT}, {1, 5, 2, NOT}, {1, 5, 3, 0}, {1, 4, 3, NOT}, {1, 8, 9, 0}, {1, 9, 8, 0}, {1, 9, 9, 1}, {1, 1699, 9, 1},
            {1, 1699, 11, 1}, {1, 1699, 12, 2}, {1, 19, 12, 1}, {1, 20, 12, 2}, {1, 20, 1699, 2},
            {11, 5, 6, NOT}, {11, 5, 7, 0}, {11, 9, 8, 0}, {11, 9, 9, 1}, {11, 20, 11, 1}, {11, 20, 12, 2}, {11, 1699, 6, NOT},
            {0, 1699, 1699, NOT}, {2, 1699, 1699, NOT}, {10, 1699, 1699, NOT}, {12, 1699, 1699, NOT},
        };
        for (int[] row : rows) {
            Due.is("inForce(" + row[0] + ", " + row[1] + ", " + row[2] + ")", x.inForce(row[0], row[1], row[2]), row[3]);
        }
    }

    /** Ahead of the boring, and of what comes by TUBES. */
    private static void stopIsAskedFirst() {
        ThirtyThreeBelow x = new ThirtyThreeBelow();
        for (int n = 0; n < 6; n++) {
            x.man(50, 55);
        }
        int shelter = x.shelter(31, 1);
        x.hole(3, 101);
        x.hole(2, 201);
        x.set(0, shelter + 1);
        x.set(1, shelter + 2);
        x.yard(shelter + 1, 0);
        Due.text(x, 2, 0, "t>0&f=0|s|k|i");
        x.hours(1);
        Due.is("THROUGH", x.count(2), 1);
        Due.is("both had their minutes", x.ofBody(shelter + 2, 6), 60);
        x.down(shelter + 1, 10, 2);
        x.hours(2);
        Due.is("f is 0 yet, when STOP is asked", x.ofBody(shelter + 2, 6), 60);
        Due.is("it came", x.below(0), 1);
        x.hours(1);
        Due.is("f is 1", x.ofBody(shelter + 2, 6), 120);
    }

    private static void meals() {
        ThirtyThreeBelow x = new ThirtyThreeBelow();
        x.man(999, 0);
        Due.text(x, 10, 0, "d");
        x.spoons(9999);
        int[] hours = {23, 1, 1, 22, 1, 23, 1};
        int[] eaten = {0, 1, 1, 1, 3, 3, 6};
        for (int n = 0; n < hours.length; n++) {
            x.hours(hours[n]);
            Due.is("eaten by HOUR " + x.count(4), x.count(9), eaten[n]);
        }
        Due.is("says d", x.says(10, 0), 3);
        x.hours(23);
        Due.is("d of HOUR 95", x.says(10, 0), 3);
        x.hours(1);
        Due.is("d of HOUR 96", x.says(10, 0), 4);
        ThirtyThreeBelow y = new ThirtyThreeBelow();
        y.man(100, 0);
        y.hours(24);
        y.man(100, 0);
        y.hours(23);
        Due.is("he came behind the meal", y.ofBody(1, 1), 100);
        y.hours(1);
        Due.is("his first meal", y.ofBody(1, 1), 94);
    }

    private static void spoonsOfAMeal() {
        int[][] rows = {{-1, 0}, {0, 0}, {1, 1}, {8, 8}, {9, 9}, {10, 9}, {99999, 9}, {-99999, 0}};
        for (int[] row : rows) {
            ThirtyThreeBelow x = new ThirtyThreeBelow();
            x.man(500, 0);
            x.man(500, 0);
            x.spoons(13);
            String text = row[0] < 0 ? "-" + -row[0] : Integer.toString(row[0]);
            Due.text(x, 10, 0, text);
            Due.is("says, as it is", x.says(10, 0), row[0]);
            x.hours(24);
            Due.is("EATS " + row[0], x.ofBody(0, 1), 494 + 2 * row[1]);
            int left = Math.min(row[1], 13 - row[1]);
            Due.is("EATS " + row[0] + ", what is left", x.ofBody(1, 1), 494 + 2 * left);
            Due.is("SPOONS", x.below(0), 13 - row[1] - left);
        }
        ThirtyThreeBelow y = new ThirtyThreeBelow();
        y.man(500, 0);
        y.man(500, 0);
        y.spoons(100);
        Due.text(y, 10, 0, "65536*65535");
        y.hours(24);
        Due.is("an int that wraps below 0", y.count(9), 0);
        Due.text(y, 10, 24, "f-94");
        y.hours(24);
        Due.is("f as it is at his turn", y.count(9), 6);
    }

    private static void strengths() {
        for (int eaten = 0; eaten <= 9; eaten++) {
            int[] first = {0, 1, 5, 6, 7, 11, 12, 13, 980, 986, 987, 988, 993, 998, 999};
            ThirtyThreeBelow x = new ThirtyThreeBelow();
            for (int strength : first) {
                x.man(strength, 0);
            }
            x.spoons(9999);
            Due.text(x, 10, 0, Integer.toString(eaten));
            x.hours(24);
            for (int n = 0; n < first.length; n++) {
                int want = Math.max(0, Math.min(999, first[n] - 6 + 2 * eaten));
                Due.is("STRENGTH " + first[n] + " by " + eaten, x.ofBody(n, 1), want);
            }
        }
    }

    /** BEST is of 0 to 9; ten would be better here. */
    private static void moreThanTen() {
        ThirtyThreeBelow x = new ThirtyThreeBelow();
        x.man(18, 0);
        x.man(999, 0);
        x.spoons(10);
        Due.is("LAST by 6", x.last(0, 6), 4);
        Due.is("LAST by 7", x.last(0, 7), 5);
        Due.is("LAST by 9", x.last(0, 9), 5);
        Due.is("BEST", x.best(0), 7);
        Due.is("LAST by 10", x.last(0, 10), BAD);
    }

    private static void movesTwice() {
        ThirtyThreeBelow x = new ThirtyThreeBelow();
        x.shelter(505, 2);
        x.open(502, 1);
        Due.is("move", x.move(502, 2), 1);
        Due.is("the same row", x.move(502, 2), 2);
        Due.is("the same cell later", x.move(502, 4), 3);
        x.hours(2);
        Due.is("not OPEN", x.ofCell(502, 1), 0);
        Due.is("HARD", x.ofCell(502, 0), 9);
        Due.is("the SHELTER HOLDS", x.ofBody(0, 4), 1);
        x.open(502, 1);
        x.hard(502, 1);
        x.hours(1);
        Due.is("as told", x.ofCell(502, 0), 1);
        x.hours(1);
        Due.is("not OPEN", x.ofCell(502, 1), 0);
        Due.is("HARD", x.ofCell(502, 0), 9);
        x.hole(2, 501);
        x.set(0, 1);
        x.speed(0, 10);
        Due.yards(x, 1, 2);
        x.hours(2);
        Due.is("it HOLDS, and is met", x.met(1, 2), 2);
        Due.is("by HARD 9", x.ofBody(1, 6), 120 - 30 - 90);
    }

    private static void lateness() {
        int[][] rows = {{0, 3 * 7}, {1, 2 * 7}, {2, 7}, {3, 0}, {4, 0}, {99, 0}};
        for (int[] row : rows) {
            ThirtyThreeBelow x = new ThirtyThreeBelow();
            x.need(307, row[0]);
            Due.is("3 HOURS, needed in " + row[0], x.order(), row[1]);
        }
        ThirtyThreeBelow x = new ThirtyThreeBelow();
        for (int n = 0; n < 10; n++) {
            x.need(999, 0);
        }
        Due.is("the greatest", x.order(), 99 * 9 * 55);
        for (int n = 0; n < 10; n++) {
            Due.is("the first by places", x.ordered(n), n);
        }
    }

    private static void tubesAtTheEnd() {
        ThirtyThreeBelow x = new ThirtyThreeBelow();
        x.shelter(31, 1);
        int tube = Due.throughAtOnce(x, 3, 4);
        x.spoons(9999);
        Due.is("999 SPOONS more", x.down(tube, 9990, 1), 2);
        x.hours(1);
        Due.is("all are below", x.below(0), 9999 + 999);
        Due.is("what there was", x.spoons(0), 9999 + 999);
        Due.hours(x, 1695);
        Due.is("HOUR", x.count(4), 1697);
        Due.is("in the last HOUR", x.down(tube, 11, 2), 1699);
        Due.is("behind it", x.down(tube, 12, 9), 1708);
        x.hours(2);
        Due.is("it came", x.below(1), 1);
        Due.is("it can't come", x.below(2), 0);
        Due.is("on the way", x.count(10), 1);
    }

    private static void longCapsule() {
        ThirtyThreeBelow x = new ThirtyThreeBelow();
        x.shelter(31, 20);
        x.hole(5, 901);
        x.set(0, 1);
        Due.yards(x, 1, 20);
        for (int n = 2; n < 120; n++) {
            x.man(50, 10);
        }
        x.hours(20);
        Due.is("2 HOURS each", x.capsule(1), 20 + 118 * 2);
        Due.is("too early by one HOUR", x.raise(1), 0);
        Due.is("just then", x.raise(2), 1);
        Due.is("199 HOURS are no more than 99 MEN", x.raise(199), 98);
        Due.is("below", x.count(3), 118 - 99);
        Due.is("no more by it", x.raise(199), 0);
        Due.is("from now on", x.capsule(1), 20 + 19 * 2);
        Due.is("the rest", x.raise(38), 19);
        Due.is("nobody", x.count(3), 0);
        Due.is("none is left of it", x.raise(199), 0);
    }

    private static void capsuleAtTheEnd() {
        ThirtyThreeBelow x = new ThirtyThreeBelow();
        x.shelter(31, 1);
        int shaft = Due.throughAtOnce(x, 4, 4);
        x.man(500, 0);
        x.man(500, 0);
        Due.hours(x, 1698);
        Due.is("behind the end", x.capsule(shaft), 1701);
        Due.is("when", x.up(0, 1), 1700);
        Due.is("both", x.raise(2), 2);
    }

    private static void firsts() {
        ThirtyThreeBelow x = new ThirtyThreeBelow();
        x.shelter(31, 1);
        int shaft = Due.throughAtOnce(x, 4, 4);
        int[] strengths = {5, 0, 3, 9, 3};
        for (int strength : strengths) {
            x.man(strength, 0);
        }
        Due.text(x, 1, 1, "s-4");
        x.capsule(shaft);
        int[] want = {5, 2, 4, 6, 3};
        for (int n = 0; n < want.length; n++) {
            Due.is("the greater the sooner", x.up(n, 0), want[n]);
            Due.is("when", x.up(n, 1), 2 + n);
        }
        Due.text(x, 1, 1, "s=9?-65536*32767-65535-1;s=0?65536*32767+65535;0");
        x.capsule(shaft);
        int[] far = {3, 2, 4, 6, 5};
        for (int n = 0; n < far.length; n++) {
            Due.is("the greatest and the least int", x.up(n, 0), far[n]);
        }
    }
}
