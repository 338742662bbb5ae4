/** Counts answers that are not the ones due; each test ends by end(). */
final class Due {
    private static int wrong = 0;
    private static int asked = 0;

    private Due() {
    }

    static void is(String call, long got, long want) {
        asked++;
        if (got != want) {
            wrong++;
            if (wrong <= 40) {
                System.out.println(call + " answered " + got + ", due is " + want);
            }
        }
    }

    static void so(String what, boolean holds) {
        is(what, holds ? 1 : 0, 1);
    }

    static void isNot(String call, long got, long refusal) {
        asked++;
        if (got == refusal) {
            wrong++;
            System.out.println(call + " answered " + got + ", which is a refusal");
        }
    }

    /** Each of a row of answers; the first that is not the same is told. */
    static void same(String what, long[] got, long[] want) {
        is(what + ": how many", got.length, want.length);
        for (int i = 0; i < Math.min(got.length, want.length); i++) {
            if (got[i] != want[i]) {
                is(what + ": answer " + i, got[i], want[i]);
                return;
            }
        }
    }

    static void end() {
        System.out.println(wrong == 0 ? asked + " answers are as due" : wrong + " answers are not as due");
        if (wrong != 0) {
            System.exit(1);
        }
    }

    /** Puts a text's bytes on THE TAPE. */
    static void tape(ThirtyThreeBelow x, String text) {
        for (int i = 0; i < text.length(); i += 4) {
            int n = Math.min(4, text.length() - i);
            int v = 0;
            for (int k = 0; k < n; k++) {
                v |= (text.charAt(i + k) & 255) << (8 * k);
            }
            x.feed(n, v);
        }
    }

    static int text(ThirtyThreeBelow x, int what, int from, String text) {
        tape(x, text);
        return x.text(what, from);
    }

    static void yards(ThirtyThreeBelow x, int hole, int n) {
        for (int i = 0; i < n; i++) {
            x.yard(hole, 0);
        }
    }

    static void hours(ThirtyThreeBelow x, int n) {
        for (int left = n; left > 0; left -= 48) {
            x.hours(Math.min(48, left));
        }
    }

    /** A hole of a kind that is THROUGH at yard 1 of column, by MACHINE 2, one HOUR later. */
    static int throughAtOnce(ThirtyThreeBelow x, int kind, int column) {
        int hole = x.hole(kind, 100 * column + 9);
        int was = x.set(2, hole);
        x.yard(hole, 0);
        x.hard(100 * column + 1, 1);
        x.hours(1);
        x.set(2, was);
        return hole;
    }
}
