/** Promises 47 and 48: acts and their trace, against real classes of the same shape. */
public final class ActsTest {
    static final StringBuilder TRACE = new StringBuilder();

    private static int ran(int number) {
        TRACE.append(number).append(' ');
        return 0;
    }

    private interface Bores {
        int number();

        default int bores(int x) {
            ran(1);
            return x + number();
        }
    }

    private interface Tells {
        int carries(int x);

        int holds(int x);

        default int tells(int x) {
            ran(2);
            return carries(x) + holds(1);
        }
    }

    static class Body implements Bores, Tells {
        final int n;
        final int has;

        Body(int n, int has) {
            this.n = n;
            this.has = has;
        }

        public int number() {
            return n;
        }

        public int carries(int x) {
            ran(10);
            return bores(x) - 1;
        }

        public int holds(int x) {
            ran(11);
            return x ^ n;
        }
    }

    private static class Way extends Body {
        Way(int n, int has) {
            super(n, has);
        }

        public int bores(int x) {
            ran(20);
            return super.bores(x) * 2;
        }
    }

    private static class Hole extends Way {
        Hole(int n, int has) {
            super(n, has);
        }

        public int carries(int x) {
            ran(30);
            return super.carries(x) + has;
        }
    }

    private static final class Tube extends Hole {
        Tube(int n, int has) {
            super(n, has);
        }

        public int holds(int x) {
            ran(40);
            return super.holds(x) - carries(1);
        }
    }

    private static class Shaft extends Hole {
        Shaft(int n, int has) {
            super(n, has);
        }

        public int bores(int x) {
            ran(50);
            return super.bores(x + 1);
        }

        public int tells(int x) {
            ran(51);
            return super.tells(x) * 3;
        }
    }

    private static final class Liner extends Shaft {
        Liner(int n, int has) {
            super(n, has);
        }

        public int holds(int x) {
            ran(60);
            return -super.holds(x);
        }

        public int bores(int x) {
            ran(61);
            return super.bores(x) ^ 7;
        }
    }

    private static final class Shelter extends Way {
        Shelter(int n, int has) {
            super(n, has);
        }

        public int holds(int x) {
            ran(70);
            return super.holds(x) + super.carries(x);
        }
    }

    private static final class Man extends Body {
        Man(int n, int has) {
            super(n, has);
        }

        public int carries(int x) {
            ran(80);
            return super.carries(x) - has;
        }
    }

    static Body made(int kind, int n, int has) {
        switch (kind) {
            case 0: return new Body(n, has);
            case 1: return new Way(n, has);
            case 2: return new Hole(n, has);
            case 3: return new Tube(n, has);
            case 4: return new Shaft(n, has);
            case 5: return new Liner(n, has);
            case 6: return new Shelter(n, has);
            default: return new Man(n, has);
        }
    }

    private static int told(ThirtyThreeBelow x, int kind, int has) {
        if (kind <= 1) {
            return x.body(kind);
        }
        if (kind <= 5) {
            return x.hole(kind, 100 + has);
        }
        return kind == 6 ? x.shelter(4, 9) : x.man(has, 0);
    }

    static int acted(Body body, int act, int x) {
        switch (act) {
            case 0: return body.bores(x);
            case 1: return body.carries(x);
            case 2: return body.holds(x);
            default: return body.tells(x);
        }
    }

    public static void main(String[] args) {
        ThirtyThreeBelow none = new ThirtyThreeBelow();
        Due.is("no TRACE yet", none.trace(0), -1);
        Due.is("none ran", none.count(11), 0);
        for (int n = 0; n < 24; n++) {
            for (int act = 0; act <= 3; act++) {
                compare(n, act);
            }
        }
        refused(camp(23));
        strengthAsItIs();
        Due.end();
    }

    private static int kindOf(int n) {
        return n == 22 ? 6 : n % 8 == 6 ? 0 : n % 8;
    }

    /** Bodies 0 to the last one, of all kinds. */
    private static ThirtyThreeBelow camp(int last) {
        ThirtyThreeBelow x = new ThirtyThreeBelow();
        for (int n = 0; n <= last; n++) {
            Due.is("number", told(x, kindOf(n), n + 11), n);
        }
        return x;
    }

    private static void compare(int n, int act) {
        ThirtyThreeBelow x = camp(n);
        int[] values = {0, 1, -1, 5, 1000, -77, Integer.MAX_VALUE, Integer.MIN_VALUE, 0x55555555};
        for (int v : values) {
            TRACE.setLength(0);
            int want = acted(made(kindOf(n), n, n + 11), act, v);
            Due.is("act(" + n + ", " + act + ", " + v + ") of KIND " + kindOf(n), x.act(n, act, v), want);
            String[] bodies = TRACE.toString().trim().split(" ");
            Due.is("bodies that ran", x.count(11), bodies.length);
            for (int i = 0; i < bodies.length; i++) {
                Due.is("trace(" + i + ")", x.trace(i), Integer.parseInt(bodies[i]));
            }
            Due.is("no more", x.trace(bodies.length), -1);
            Due.is("-1", x.trace(-1), -1);
        }
    }

    private static void refused(ThirtyThreeBelow x) {
        int[][] rows = {{24, 0}, {-1, 0}, {120, 3}, {0, 4}, {0, -1}, {Integer.MAX_VALUE, 1}};
        for (int[] row : rows) {
            x.act(3, 3, 5);
            Due.is("some ran", x.count(11), 11);
            Due.is("no such BODY, ACT", x.act(row[0], row[1], 5), 0);
            Due.is("no TRACE", x.count(11), 0);
            Due.is("no TRACE", x.trace(0), -1);
        }
        x.act(3, 3, 5);
        x.act(0, 0, 5);
        Due.is("of the latest", x.trace(0), 1);
        Due.is("of the latest alone", x.trace(1), -1);
    }

    private static void strengthAsItIs() {
        ThirtyThreeBelow x = new ThirtyThreeBelow();
        x.man(50, 0);
        Due.is("carries", x.act(0, 1, 5), 5 - 1 - 50);
        x.hours(24);
        Due.is("carries", x.act(0, 1, 5), 5 - 1 - 44);
    }
}
