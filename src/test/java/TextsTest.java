/** Promises 24 and 26 against a second reader: random texts, their values and their FAULTS. */
public final class TextsTest {
    private static final String SIGNS = "0123456789hdskinft()!-+*/%<=>&|?;()(((--!! x";
    private static long seed = 20261116L;

    private static String source;
    private static int at;
    private static int[] env;

    public static void main(String[] args) {
        deepTexts();
        for (int n = 0; n < 4000; n++) {
            String text = madeText();
            if (text.length() <= 160) {
                compareValue(text);
                compareFault(spoiled(text));
                compareFault(text.substring(0, dice(text.length() + 1)));
            }
        }
        Due.end();
    }

    /** As many operands as can wait: five at each of nine depths. */
    private static void deepTexts() {
        String[] ahead = {"0|1&2<3+4*(", "0|h&2>s-4*(", "9+2*(", "0|1&9>3-7%("};
        for (String part : ahead) {
            compareValue(part.repeat(8) + "0|1&2<3+4*5" + ")".repeat(8));
            compareValue("0?1;" + part.repeat(8) + "7" + ")".repeat(8) + ";3");
        }
        compareValue("0|1&!(".repeat(4) + "0|1&2<3+4*5" + ")".repeat(4));
        compareValue("0?1;".repeat(39) + "8-3");
        compareValue("0?1;".repeat(39) + "0?7");
    }

    private static int dice(int n) {
        seed = seed * 6364136223846793005L + 1442695040888963407L;
        return (int) ((seed >>> 33) % n);
    }

    static String madeText() {
        StringBuilder text = new StringBuilder();
        int lines = 1 + dice(3);
        for (int n = 0; n < lines; n++) {
            text.append(n > 0 ? ";" : "").append(joined(0, 8));
            if (dice(2) == 0) {
                text.append('?').append(joined(0, 8));
            }
        }
        return text.toString();
    }

    private static final String[] LEVELS = {"|", "&", "<=>", "+-", "*/%"};

    private static String joined(int level, int open) {
        if (level == LEVELS.length) {
            return single(open);
        }
        StringBuilder text = new StringBuilder(joined(level + 1, open));
        int most = level == 2 ? 1 : 2;
        for (int n = 0; n < most && dice(4) == 0; n++) {
            text.append(LEVELS[level].charAt(dice(LEVELS[level].length()))).append(joined(level + 1, open));
        }
        return text.toString();
    }

    private static String single(int open) {
        int kind = dice(open > 0 ? 10 : 5);
        if (kind < 2) {
            return Integer.toString(dice(kind == 0 ? 10 : 100000));
        }
        if (kind < 5) {
            return Character.toString("hdskinft".charAt(dice(8)));
        }
        if (kind < 7) {
            return "(" + joined(0, open - 1) + ")";
        }
        return (kind < 8 ? "!" : "-") + single(open - 1);
    }

    private static String spoiled(String text) {
        StringBuilder other = new StringBuilder(text);
        char sign = SIGNS.charAt(dice(SIGNS.length()));
        int place = dice(other.length());
        if (dice(2) == 0) {
            other.setCharAt(place, sign);
        } else if (dice(2) == 0 && other.length() < 160) {
            other.insert(place, sign);
        } else {
            other.deleteCharAt(place);
        }
        return other.toString();
    }

    private static void compareValue(String text) {
        ThirtyThreeBelow x = new ThirtyThreeBelow();
        int strength = dice(1000);
        int what = dice(100);
        x.man(strength, what);
        x.man(1, 0);
        int spoons = dice(10000);
        x.spoons(spoons);
        int hour = dice(24);
        Due.hours(x, hour);
        Due.is("text " + text, Due.text(x, 1, hour, text), 0);
        env = new int[] {hour, 0, strength, what / 10, what % 10, 2, spoons, 0};
        Due.is("says " + text, x.says(1, 0), valueOf(text));
    }

    private static void compareFault(String text) {
        ThirtyThreeBelow x = new ThirtyThreeBelow();
        int fault = faultOf(text);
        Due.is("FAULT of " + text, Due.text(x, 2, 0, text), fault < 0 ? 0 : -100 - fault);
    }

    static int valueOf(String text, int... names) {
        env = names;
        return valueOf(text);
    }

    private static int valueOf(String text) {
        for (String line : text.split(";")) {
            int mark = line.indexOf('?');
            if (mark < 0) {
                return worth(line);
            }
            if (worth(line.substring(0, mark)) != 0) {
                return worth(line.substring(mark + 1));
            }
        }
        return 0;
    }

    private static int worth(String part) {
        source = part;
        at = 0;
        return level(0);
    }

    private static int level(int depth) {
        if (depth == LEVELS.length) {
            return one();
        }
        int v = level(depth + 1);
        while (at < source.length() && LEVELS[depth].indexOf(source.charAt(at)) >= 0) {
            char op = source.charAt(at++);
            v = worked(op, v, level(depth + 1));
        }
        return v;
    }

    private static int worked(char op, int a, int b) {
        switch (op) {
            case '|': return (a | b) != 0 ? 1 : 0;
            case '&': return a != 0 && b != 0 ? 1 : 0;
            case '<': return a < b ? 1 : 0;
            case '=': return a == b ? 1 : 0;
            case '>': return a > b ? 1 : 0;
            case '+': return a + b;
            case '-': return a - b;
            case '*': return a * b;
            case '/': return b == 0 ? 0 : (int) ((long) a / b);
            default: return b == 0 ? 0 : (int) ((long) a % b);
        }
    }

    private static int one() {
        char sign = source.charAt(at++);
        if (sign == '(') {
            int v = level(0);
            at++;
            return v;
        }
        if (sign == '!') {
            return one() == 0 ? 1 : 0;
        }
        if (sign == '-') {
            return -one();
        }
        int name = "hdskinft".indexOf(sign);
        if (name >= 0) {
            return env[name];
        }
        int v = sign - '0';
        while (at < source.length() && Character.isDigit(source.charAt(at))) {
            v = v * 10 + source.charAt(at++) - '0';
        }
        return v;
    }

    /** The FAULT by signs alone: what may come next, with a stack of brackets; -1: none. */
    static int faultOf(String text) {
        boolean wantsOperand = true;
        int digits = 0;
        boolean asked = false;
        int open = 0;
        int[] signsAhead = new int[200];
        boolean[] compared = new boolean[200];
        int level = 0;
        for (int n = 0; n < text.length(); n++) {
            char c = text.charAt(n);
            if (wantsOperand) {
                if (c >= '0' && c <= '9' || "hdskinft".indexOf(c) >= 0) {
                    digits = c <= '9' ? 1 : 0;
                    wantsOperand = false;
                    open -= signsAhead[level];
                    signsAhead[level] = 0;
                } else if ((c == '!' || c == '-') && open < 8) {
                    open++;
                    signsAhead[level]++;
                } else if (c == '(' && open < 8) {
                    open++;
                    level++;
                    signsAhead[level] = 0;
                    compared[level] = false;
                } else {
                    return n;
                }
                continue;
            }
            if (c >= '0' && c <= '9' && digits > 0 && digits < 5) {
                digits++;
                continue;
            }
            digits = 0;
            if (c == ')' && level > 0) {
                level--;
                open -= 1 + signsAhead[level];
                signsAhead[level] = 0;
                continue;
            }
            boolean goesOn = "+-*/%&|".indexOf(c) >= 0 || "<=>".indexOf(c) >= 0 && !compared[level]
                || c == '?' && level == 0 && !asked || c == ';' && level == 0;
            if (!goesOn) {
                return n;
            }
            if ("<=>".indexOf(c) >= 0) {
                compared[level] = true;
            } else if ("&|?;".indexOf(c) >= 0) {
                compared[level] = false;
            }
            asked = c == '?' || asked && c != ';';
            wantsOperand = true;
        }
        return wantsOperand || level > 0 ? text.length() : -1;
    }
}
