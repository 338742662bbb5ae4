/** Promises 49 to 56: shelves and counts. */
public final class ShelvesTest {
    private static final long NONE = Long.MIN_VALUE;

    public static void main(String[] args) {
        keeps();
        rows();
        puts();
        refusedPuts();
        blanks();
        shifts();
        refusedShifts();
        taken();
        counts();
        Due.end();
    }

    private static void keeps() {
        ThirtyThreeBelow x = new ThirtyThreeBelow();
        x.body(0);
        Due.is("keep", x.keep(0, 0), 1);
        Due.is("a BODY is there", x.taken(0, 0), 0);
        Due.is("nothing", x.keep(0, -1), 1);
        Due.is("nothing is there", x.taken(0, 0), -11);
        Due.is("nothing again", x.keep(5, -1), 1);
        Due.is("body 1", x.keep(0, 1), -1);
        Due.is("body -2", x.keep(0, -2), -1);
        Due.is("shelf 6", x.keep(6, 0), -1);
        Due.is("shelf -1", x.keep(-1, -1), -1);
        x.row(1, 2, 3);
        Due.is("in a ROW's stead", x.keep(1, 0), 1);
        Due.is("no ROW", x.put(1, 0, 1), -12);
        x.row(1, 2, 3);
        Due.is("in a BODY's stead", x.put(1, 0, 1), 1);
        x.keep(1, -1);
        Due.is("nothing", x.put(1, 0, 1), -11);
    }

    private static void rows() {
        ThirtyThreeBelow x = new ThirtyThreeBelow();
        for (int sort = 0; sort <= 4; sort++) {
            Due.is("row", x.row(sort, sort, 60), 1);
            for (int i = 0; i < 60; i++) {
                Due.is("0 at first", x.element(sort, i), 0);
            }
            Due.is("60", x.element(sort, 60), NONE);
        }
        x.put(0, 1, 5);
        Due.is("anew", x.row(0, 0, 2), 1);
        Due.is("0 at first", x.element(0, 1), 0);
        Due.is("2", x.element(0, 2), NONE);
        Due.is("an empty one", x.row(0, 0, 0), 1);
        Due.is("0", x.element(0, 0), NONE);
        Due.is("-1", x.row(0, 0, -1), -14);
        Due.is("far below 0", x.row(0, 0, Integer.MIN_VALUE), -14);
        Due.is("61", x.row(0, 0, 61), -1);
        Due.is("sort 5", x.row(0, 5, 1), -1);
        Due.is("sort -1", x.row(0, -1, 1), -1);
        Due.is("BAD ahead of -14", x.row(0, 5, -1), -1);
        Due.is("shelf 6", x.row(6, 0, -1), -1);
        Due.is("shelf -1", x.row(-1, 0, 1), -1);
        Due.is("still empty", x.put(0, 0, 1), -13);
    }

    private static void puts() {
        ThirtyThreeBelow x = new ThirtyThreeBelow();
        for (int sort = 0; sort <= 4; sort++) {
            x.row(sort, sort, 3);
        }
        long[] values = {0, 1, -1, 127, 128, 255, 256, -129, 65535, 65536, -32769, Integer.MAX_VALUE, 1L << 31, 1L << 32,
            -1L << 33, Long.MAX_VALUE, Long.MIN_VALUE, 9999, -9999, 10000, -10000, 0x123456789ABCDEFL};
        for (long v : values) {
            Due.is("put a byte", x.put(0, 1, v), 1);
            Due.is("byte of " + v, x.element(0, 1), (byte) v);
            Due.is("put a char", x.put(1, 1, v), 1);
            Due.is("char of " + v, x.element(1, 1), (char) v);
            Due.is("put an int", x.put(2, 1, v), 1);
            Due.is("int of " + v, x.element(2, 1), (int) v);
            boolean fits = v >= -9999 && v <= 9999;
            for (int shelf = 3; shelf <= 4; shelf++) {
                x.put(shelf, 1, 77);
                Due.is("put " + v, x.put(shelf, 1, v), fits ? 1 : -1);
                Due.is("held " + v, x.element(shelf, 1), fits ? v : 77);
            }
        }
        Due.is("beside it", x.element(0, 0), 0);
        Due.is("beside it", x.element(0, 2), 0);
    }

    private static void refusedPuts() {
        ThirtyThreeBelow x = new ThirtyThreeBelow();
        x.body(0);
        x.keep(1, 0);
        x.row(2, 2, 3);
        x.row(3, 3, 3);
        Due.is("shelf 6", x.put(6, 0, 1), -1);
        Due.is("shelf -1", x.put(-1, 0, 1), -1);
        Due.is("nothing", x.put(0, 0, 99999), -11);
        Due.is("a BODY", x.put(1, 0, 99999), -12);
        Due.is("place 3", x.put(2, 3, 99999), -13);
        Due.is("place -1", x.put(2, -1, 1), -13);
        Due.is("BAD ahead of -13", x.put(3, 3, 10000), -1);
        Due.is("place 3", x.put(3, 3, 9999), -13);
        Due.is("shelf 6", x.element(6, 0), NONE);
        Due.is("shelf -1", x.element(-1, 0), NONE);
        Due.is("nothing", x.element(0, 0), NONE);
        Due.is("a BODY", x.element(1, 0), NONE);
        Due.is("place 3", x.element(2, 3), NONE);
        Due.is("place -1", x.element(2, -1), NONE);
        x.put(2, 0, Integer.MIN_VALUE);
        Due.is("an int", x.element(2, 0), Integer.MIN_VALUE);
    }

    private static void blanks() {
        ThirtyThreeBelow x = new ThirtyThreeBelow();
        x.body(0);
        x.keep(1, 0);
        x.row(3, 3, 3);
        x.row(4, 4, 3);
        for (int shelf = 3; shelf <= 4; shelf++) {
            Due.is("blank", x.blank(shelf, 2), 1);
            Due.is("no number", x.element(shelf, 2), Long.MAX_VALUE);
            Due.is("beside it", x.element(shelf, 1), 0);
            Due.is("a number again", x.put(shelf, 2, 4), 1);
            Due.is("a number again", x.element(shelf, 2), 4);
            Due.is("place 3", x.blank(shelf, 3), -13);
            Due.is("place -1", x.blank(shelf, -1), -13);
        }
        for (int sort = 0; sort <= 2; sort++) {
            x.row(2, sort, 3);
            Due.is("sort " + sort, x.blank(2, 0), -12);
            Due.is("-12 ahead of -13", x.blank(2, 9), -12);
            Due.is("stays", x.element(2, 0), 0);
        }
        Due.is("nothing", x.blank(0, 0), -11);
        Due.is("a BODY", x.blank(1, 0), -12);
        Due.is("shelf 6", x.blank(6, 0), -1);
        Due.is("shelf -1", x.blank(-1, 0), -1);
    }

    private static void filled(ThirtyThreeBelow x, int shelf, int sort, int n) {
        x.row(shelf, sort, n);
        for (int i = 0; i < n; i++) {
            x.put(shelf, i, 10 * (shelf + 1) + i);
        }
    }

    private static void has(ThirtyThreeBelow x, int shelf, long... want) {
        for (int i = 0; i < want.length; i++) {
            Due.is("element " + i, x.element(shelf, i), want[i]);
        }
        Due.is("no more", x.element(shelf, want.length), NONE);
    }

    private static void shifts() {
        for (int sort = 0; sort <= 4; sort++) {
            ThirtyThreeBelow x = new ThirtyThreeBelow();
            filled(x, 0, sort, 5);
            filled(x, 1, sort, 3);
            Due.is("to another", x.shift(0, 3, 1, 1, 2), 2);
            has(x, 1, 20, 13, 14);
            has(x, 0, 10, 11, 12, 13, 14);
            Due.is("up in itself", x.shift(0, 0, 0, 1, 4), 4);
            has(x, 0, 10, 10, 11, 12, 13);
            Due.is("down in itself", x.shift(0, 2, 0, 0, 3), 3);
            has(x, 0, 11, 12, 13, 12, 13);
            Due.is("none", x.shift(0, 5, 1, 3, 0), 0);
            Due.is("all", x.shift(0, 0, 0, 0, 5), 5);
            has(x, 0, 11, 12, 13, 12, 13);
        }
        ThirtyThreeBelow y = new ThirtyThreeBelow();
        filled(y, 0, 3, 2);
        filled(y, 1, 3, 2);
        y.blank(0, 0);
        y.shift(0, 0, 1, 1, 1);
        has(y, 1, 20, Long.MAX_VALUE);
    }

    private static void refusedShifts() {
        ThirtyThreeBelow x = new ThirtyThreeBelow();
        x.body(0);
        filled(x, 0, 3, 3);
        filled(x, 1, 4, 3);
        filled(x, 2, 3, 5);
        filled(x, 3, 3, 3);
        x.keep(3, 0);
        Due.is("shelf 6", x.shift(6, 0, 0, 0, 1), -1);
        Due.is("other 6", x.shift(0, 0, 6, 0, 1), -1);
        Due.is("shelf -1", x.shift(-1, 0, 0, 0, 1), -1);
        Due.is("BAD ahead of -11", x.shift(4, 0, -1, 0, 1), -1);
        Due.is("nothing", x.shift(4, 0, 0, 0, 1), -11);
        Due.is("nothing there", x.shift(0, 0, 4, 0, 1), -11);
        Due.is("-11 ahead of -12", x.shift(3, 0, 4, 0, 1), -11);
        Due.is("-11 ahead of -12", x.shift(4, 0, 3, 0, 1), -11);
        Due.is("a BODY", x.shift(3, 0, 0, 0, 1), -12);
        Due.is("to a BODY", x.shift(0, 0, 3, 0, 1), -12);
        Due.is("two BODIES", x.shift(3, 0, 3, 0, 1), -12);
        Due.is("unlike sorts", x.shift(0, 0, 1, 0, 1), -12);
        Due.is("-12 ahead of -13", x.shift(0, 9, 1, 0, 1), -12);
        Due.is("from -1", x.shift(0, -1, 2, 0, 1), -13);
        Due.is("to -1", x.shift(0, 0, 2, -1, 1), -13);
        Due.is("from too far", x.shift(0, 1, 2, 0, 3), -13);
        Due.is("to too far", x.shift(2, 0, 0, 1, 3), -13);
        Due.is("too many", x.shift(2, 0, 0, 0, 4), -13);
        Due.is("fewer than none", x.shift(0, 1, 2, 1, -1), -13);
        Due.is("none from too far", x.shift(0, 4, 2, 0, 0), -13);
        Due.is("none to too far", x.shift(0, 0, 2, 6, 0), -13);
        Due.is("far", x.shift(0, Integer.MAX_VALUE, 2, 0, 1), -13);
        Due.is("far", x.shift(0, 1, 2, 0, Integer.MAX_VALUE), -13);
        Due.is("far", x.shift(0, Integer.MAX_VALUE, 2, Integer.MAX_VALUE, Integer.MAX_VALUE), -13);
        Due.is("far", x.shift(0, Integer.MIN_VALUE, 2, 0, Integer.MIN_VALUE), -13);
        has(x, 0, 10, 11, 12);
        has(x, 2, 30, 31, 32, 33, 34);
    }

    private static void taken() {
        ThirtyThreeBelow x = new ThirtyThreeBelow();
        x.body(0);
        x.body(1);
        for (int kind = 2; kind <= 5; kind++) {
            x.hole(kind, 101);
        }
        x.shelter(1, 1);
        x.man(1, 1);
        String[] under = {"0", "01", "012", "0123", "0124", "01245", "016", "07"};
        for (int kind = 0; kind <= 7; kind++) {
            x.keep(2, kind);
            for (int k = 0; k <= 7; k++) {
                Due.is("KIND " + kind + " for " + k, x.taken(2, k), under[kind].indexOf('0' + k) >= 0 ? kind : -12);
            }
        }
        Due.is("k 8", x.taken(2, 8), -1);
        Due.is("k -1", x.taken(2, -1), -1);
        Due.is("shelf 6", x.taken(6, 0), -1);
        Due.is("shelf -1", x.taken(-1, 0), -1);
        Due.is("BAD ahead of -11", x.taken(0, 8), -1);
        Due.is("nothing", x.taken(0, 0), -11);
        x.row(2, 2, 2);
        Due.is("a ROW", x.taken(2, 0), -12);
    }

    private static void counts() {
        ThirtyThreeBelow x = new ThirtyThreeBelow();
        x.shelter(31, 2);
        x.body(0);
        x.man(50, 0);
        x.man(50, 0);
        x.hole(3, 501);
        x.hole(4, 601);
        x.hole(5, 701);
        x.hole(2, 801);
        x.set(0, 4);
        x.set(1, 5);
        Due.yards(x, 4, 3);
        Due.yards(x, 5, 1);
        x.spoons(9);
        x.map(1, 1);
        Due.text(x, 0, 0, "1");
        Due.text(x, 0, 0, "1");
        Due.text(x, 0, 0, "1");
        Due.tape(x, "12345");
        x.hours(24);
        x.down(4, 10, 9);
        x.act(3, 0, 0);
        int[] want = {8, 4, 1, 2, 24, 1, 3, 5, 3, 2, 1, 1};
        for (int what = 0; what < want.length; what++) {
            Due.is("count(" + what + ")", x.count(what), want[what]);
        }
        Due.is("count(12)", x.count(12), -1);
        Due.is("count(-1)", x.count(-1), -1);
    }
}
