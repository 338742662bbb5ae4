/** Promises 23 to 26: the tape, texts, which is in force, what it says. */
public final class OrdersTest {
    private static final int VOID = ThirtyThreeBelow.VOID;

    public static void main(String[] args) {
        feeds();
        fullTape();
        refusedTexts();
        fullOfTexts();
        faults();
        values();
        namesOfMen();
        lines();
        inForce();
        heard();
        says();
        Due.end();
    }

    private static void feeds() {
        ThirtyThreeBelow x = new ThirtyThreeBelow();
        Due.is("lowest first", x.feed(2, '7' << 8 | '4'), 2);
        Due.is("count", x.count(7), 2);
        Due.is("just n bytes", x.feed(1, '5' << 8 | '1'), 3);
        Due.is("text", x.text(2, 0), 0);
        Due.is("says", x.says(2, -1), 471);
        Due.is("the tape is empty", x.count(7), 0);
        Due.is("n 0", x.feed(0, 1), -1);
        Due.is("n 5", x.feed(5, 1), -1);
        Due.is("n -1", x.feed(-1, 1), -1);
        Due.is("a negative number's bytes", x.feed(4, 0xB1323334), 4);
        Due.is("byte 3 is none", x.text(2, 0), -103);
    }

    private static void fullTape() {
        ThirtyThreeBelow x = new ThirtyThreeBelow();
        StringBuilder text = new StringBuilder("1");
        while (text.length() < 157) {
            text.append("+1");
        }
        Due.tape(x, text.toString());
        Due.is("157", x.count(7), 157);
        Due.is("161 is too much", x.feed(4, 0), -3);
        Due.is("BAD ahead of FULL", x.feed(5, 0), -1);
        Due.is("stays", x.count(7), 157);
        Due.is("160", x.feed(3, '+' | '1' << 8 | '+' << 16), 160);
        Due.is("no more", x.feed(1, '1'), -3);
        Due.is("it ends too early", x.text(2, 0), -260);
        Due.tape(x, text.toString() + "+11");
        Due.is("160 bytes", x.text(2, 0), 0);
        Due.is("their sum", x.says(2, -1), 79 + 11);
        Due.tape(x, "-" + text.toString() + "+1");
        Due.is("160 bytes of one code each", x.text(2, 0), 1);
        Due.is("their sum", x.says(2, -1), 78);
    }

    private static void refusedTexts() {
        ThirtyThreeBelow x = new ThirtyThreeBelow();
        x.hours(5);
        Due.tape(x, "1+");
        int[] bad = {3, 9, 13, 20, 22, 100, -1, -10, Integer.MIN_VALUE, Integer.MAX_VALUE};
        for (int what : bad) {
            Due.is("text(" + what + ")", x.text(what, 5), -1);
            Due.is("inForce(" + what + ")", x.inForce(what, 5, 5), -1);
            Due.is("says(" + what + ")", x.says(what, -1), VOID);
        }
        Due.is("from 4", x.text(0, 4), -1);
        Due.is("from 1700", x.text(0, 1700), -1);
        Due.is("the tape stays", x.count(7), 2);
        Due.is("FAULT", x.text(0, 1699), -102);
        Due.is("the tape is empty", x.count(7), 0);
        Due.is("no text", x.count(6), 0);
        Due.is("from 1699", Due.text(x, 0, 1699, "1"), 0);
        Due.is("from now", Due.text(x, 12, 5, "1"), 1);
    }

    private static void fullOfTexts() {
        ThirtyThreeBelow x = new ThirtyThreeBelow();
        for (int n = 0; n < 16; n++) {
            Due.is("text", Due.text(x, 10 * (n % 2) + n % 3, 0, "1"), n);
        }
        Due.is("a 17th", Due.text(x, 0, 0, "12"), -3);
        Due.is("the tape stays", x.count(7), 2);
        Due.is("BAD ahead of FULL", x.text(0, -1), -1);
        Due.is("FULL ahead of its FAULT", Due.text(x, 0, 0, "+"), -3);
        Due.is("texts", x.count(6), 16);
    }

    private static void faults() {
        Object[][] rows = {
            {"", 0}, {"1;", 2}, {";", 0}, {"1;;2", 2}, {"1?", 2}, {"1?2?3", 3}, {"?1", 0}, {"1?2;3?", 6},
            {"(1?2)", 2}, {"(1;2)", 2}, {"(1", 2}, {"(", 1}, {"()", 1}, {"1)", 1}, {"(1))", 3},
            {"123456", 5}, {"12345", -1}, {"000001", 5}, {"h1", 1}, {"1h", 1}, {"hd", 1}, {"x", 0}, {"H", 0},
            {"1 +1", 1}, {" 1", 0}, {"1<2<3", 3}, {"1<2=3", 3}, {"1=1&2>1", -1}, {"1<2|2<3", -1}, {"(1<2)<3", -1},
            {"1<(2<3)", -1}, {"1+", 2}, {"1+*2", 2}, {"1--1", -1}, {"1-!-1", -1}, {"1!1", 1}, {"*1", 0}, {"+1", 0},
            {"1&", 2}, {"1|", 2}, {"1||1", 2}, {"1&&1", 2}, {"1==1", 2}, {"1<", 2}, {"1/", 2}, {"1%", 2}, {"1*", 2},
            {"!!!!!!!!1", -1}, {"!!!!!!!!!1", 8}, {"((((((((1))))))))", -1}, {"(((((((((1", 8}, {"--------1", -1},
            {"---------1", 8}, {"-(-(-(-(1))))", -1}, {"-(-(-(-(-1))))", 8}, {"-(-(-(-(1-1))))", -1},
            {"!!!!!!!!1+!!!!!!!!1", -1}, {"((((1))))+((((((((1))))))))", -1}, {"!!!!((((1))))*!!!!((((!1", 22},
            {"((((((((1)-1", 12}, {"(((((((-1)))))))", -1}, {"(((((((-1-(1", 12}, {"(((((((-(1", 8}, {"(((((((1-(1)))))))))", 19},
            {"!(1)(", 4}, {"!h;", 3}, {"-", 1}, {"!", 1}, {"1?1;", 4}, {"1;2?h", -1}, {"1?!", 3},
            {"1\u00001", 1}, {"\u00ff", 0}, {"9/", 2}, {":", 0}, {"1:", 1}, {"/", 0},
        };
        for (Object[] row : rows) {
            ThirtyThreeBelow x = new ThirtyThreeBelow();
            int fault = (Integer) row[1];
            Due.is("text " + row[0], Due.text(x, 2, 0, (String) row[0]), fault < 0 ? 0 : -100 - fault);
            Due.is("the tape is empty", x.count(7), 0);
            Due.is("texts", x.count(6), fault < 0 ? 1 : 0);
        }
    }

    private static void values() {
        Object[][] rows = {
            {"0", 0}, {"99999", 99999}, {"00012", 12}, {"2+3*4", 14}, {"(2+3)*4", 20}, {"10-3-2", 5}, {"100/7/2", 7},
            {"-7/2", -3}, {"-7%3", -1}, {"7%-3", 1}, {"7/-2", -3}, {"5/0", 0}, {"5%0", 0}, {"5*3%4", 3},
            {"2*-3", -6}, {"1--1", 2}, {"!0", 1}, {"!5", 0}, {"!!7", 1}, {"!-1", 0}, {"-!0", -1},
            {"3<4", 1}, {"4<3", 0}, {"3<3", 0}, {"3=3", 1}, {"3=4", 0}, {"4>3", 1}, {"3>4", 0}, {"3>3", 0},
            {"2|0", 1}, {"0|0", 0}, {"0|5", 1}, {"2&4", 1}, {"2&0", 0}, {"0&0", 0}, {"0&2", 0}, {"1|0&0", 1},
            {"(1|0)&0", 0}, {"1+1=2", 1}, {"1<2&2<3|0", 1}, {"(7)", 7}, {"-(3-5)", 2}, {"5|9&0", 1},
            {"99999*99999", 99999 * 99999}, {"99999*99999*99999", 99999 * 99999 * 99999},
            {"(0-65536*32767-65535-1)/-1", Integer.MIN_VALUE}, {"(0-65536*32767-65535-1)%-1", 0},
            {"-(0-65536*32767-65535-1)", Integer.MIN_VALUE}, {"65536*32767+65535+1", Integer.MIN_VALUE},
            {"0<(0-65536*32767-65535-1)-1", 1},
        };
        for (Object[] row : rows) {
            ThirtyThreeBelow x = new ThirtyThreeBelow();
            Due.is("text " + row[0], Due.text(x, 2, 0, (String) row[0]), 0);
            Due.is("says " + row[0], x.says(2, -1), (Integer) row[1]);
        }
    }

    private static void namesOfMen() {
        ThirtyThreeBelow x = new ThirtyThreeBelow();
        x.body(0);
        x.man(321, 85);
        x.man(7, 12);
        x.shelter(31, 1);
        Due.throughAtOnce(x, 2, 4);
        Due.throughAtOnce(x, 3, 5);
        x.spoons(77);
        Due.hours(x, 51);
        x.spoons(55);
        String[] names = {"h", "d", "s", "k", "i", "n", "f", "t"};
        int[] first = {53, 2, 321 - 8, 8, 5, 2, 55, 2};
        int[] second = {53, 2, 0, 1, 2, 2, 55, 2};
        int[] nobody = {53, 2, 0, 0, 0, 2, 55, 2};
        for (int n = 0; n < 8; n++) {
            Due.text(x, 1, 53, names[n]);
            Due.is(names[n], x.says(1, 1), first[n]);
            Due.is(names[n], x.says(1, 2), second[n]);
        }
        for (int n = 0; n < 8; n++) {
            Due.text(x, 2, 53, names[n]);
            Due.is(names[n], x.says(2, -1), nobody[n]);
        }
    }

    private static void lines() {
        Object[][] rows = {
            {"0?5;7", 7}, {"1?5;7", 5}, {"0?5;0?6", 0}, {"0?5;2-1?6;8", 6}, {"0", 0}, {"0;9", 0}, {"3;9", 3},
            {"-1?4;9", 4}, {"1?0;9", 0}, {"0?1;0?2;0?3;4;5", 4}, {"2?3", 3}, {"0?3", 0},
        };
        for (Object[] row : rows) {
            ThirtyThreeBelow x = new ThirtyThreeBelow();
            Due.text(x, 2, 0, (String) row[0]);
            Due.is("says " + row[0], x.says(2, -1), (Integer) row[1]);
        }
    }

    private static void inForce() {
        ThirtyThreeBelow x = new ThirtyThreeBelow();
        Due.is("none", x.inForce(0, 0, 0), -2);
        Due.text(x, 0, 10, "1");
        Due.text(x, 0, 5, "2");
        Due.text(x, 1, 0, "3");
        x.hours(3);
        Due.text(x, 0, 8, "4");
        Due.is("ahead of all", x.inForce(0, 4, 3), -2);
        Due.is("from 5", x.inForce(0, 5, 3), 1);
        Due.is("from 7", x.inForce(0, 7, 3), 1);
        Due.is("made last", x.inForce(0, 8, 3), 3);
        Due.is("as known in 2", x.inForce(0, 8, 2), 1);
        Due.is("as known in 2", x.inForce(0, 10, 2), 1);
        Due.is("made last, not from the latest", x.inForce(0, 10, 1699), 3);
        Due.is("1699", x.inForce(0, 1699, 0), 1);
        Due.is("USE 1", x.inForce(1, 0, 0), 2);
        Due.is("USE 2", x.inForce(2, 1699, 1699), -2);
        Due.is("below nothing is known", x.inForce(10, 1699, 1699), -2);
        Due.is("hour -1", x.inForce(0, -1, 3), -1);
        Due.is("hour 1700", x.inForce(0, 1700, 3), -1);
        Due.is("k -1", x.inForce(0, 3, -1), -1);
        Due.is("k 1700", x.inForce(0, 3, 1700), -1);
    }

    private static void heard() {
        ThirtyThreeBelow x = new ThirtyThreeBelow();
        x.shelter(31, 1);
        x.man(50, 0);
        Due.text(x, 10, 0, "2");
        Due.text(x, 0, 0, "3");
        Due.hours(x, 7);
        Due.is("above", x.inForce(0, 7, 7), 1);
        Due.is("below", x.inForce(10, 7, 7), 0);
        Due.is("says below", x.says(10, 1), 2);
        Due.throughAtOnce(x, 2, 3);
        Due.is("THROUGH in 8", x.inForce(10, 8, 8), 1);
        Due.is("as known in 7", x.inForce(10, 8, 7), 0);
        Due.is("says below", x.says(10, 1), 3);
        Due.text(x, 10, 8, "4");
        Due.is("heard above", x.inForce(0, 8, 8), 2);
        Due.is("as known in 7", x.inForce(0, 8, 7), 1);
        Due.throughAtOnce(x, 2, 3);
        Due.is("the first counts", x.inForce(0, 8, 8), 2);
    }

    private static void says() {
        ThirtyThreeBelow x = new ThirtyThreeBelow();
        x.man(50, 0);
        x.body(0);
        Due.is("EATS", x.says(0, 0), 1);
        Due.is("EATS below", x.says(10, 0), 1);
        Due.is("FIRST", x.says(1, 0), 0);
        Due.is("STOP", x.says(2, -1), 0);
        Due.is("STOP of a MAN", x.says(2, 0), VOID);
        Due.is("EATS of -1", x.says(0, -1), VOID);
        Due.is("EATS of a BODY", x.says(0, 1), VOID);
        Due.is("FIRST of none", x.says(1, 2), VOID);
        Due.text(x, 0, 0, "99*s");
        Due.text(x, 1, 1, "5");
        Due.is("what it gives, not held", x.says(0, 0), 4950);
        Due.is("not yet", x.says(1, 0), 0);
        x.hours(1);
        Due.is("from 1", x.says(1, 0), 5);
        Due.is("not below", x.says(11, 0), 0);
    }
}
