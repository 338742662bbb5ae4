import java.util.ArrayList;
import java.util.Arrays;
import java.util.Collections;
import java.util.Comparator;
import java.util.HashSet;
import java.util.List;
import java.util.Set;
import java.util.TreeSet;

/**
 * The document worked out a second time, sentence by sentence, without a care for room, speed or LANGUAGE.md: what any
 * calls must answer. Rows are real arrays, refusals are exceptions, acts are run by real classes.
 */
final class Second {
    static final int BAD = -1, NOT = -2, FULL = -3, VOID = -2000000000;
    private static final int[] ABOVE_OF = {-1, 0, 1, 2, 2, 4, 1, 0};

    /** A refusal by its number. */
    static final class Refused extends RuntimeException {
        private static final long serialVersionUID = 1L;
        final int number;

        Refused(int number) {
            super(null, null, false, false);
            this.number = number;
        }
    }

    /** Any body; a kind uses what it has. */
    static final class Thing {
        int number;
        int kind;
        int begin;
        int width;
        int truth;
        int minutes;
        int throughIn = -1;
        int tubeFree;
        final List<Integer> leans = new ArrayList<>();
        final List<Integer> met = new ArrayList<>();
        final Integer[] logs = new Integer[61];
        int from;
        int to;
        int depth;
        boolean holds;
        int strength;
        int skill;
        int ill;
        boolean below;

        boolean isHole() {
            return kind >= 2 && kind <= 5;
        }
    }

    record Order(int side, int use, int made, int from, String text) { }

    record OnWay(int what, int hour) { }

    record Move(int x, int y, int hour) { }

    record Need(int hours, int weight, int by) { }

    record Aim(int place, int machine, long minutes) { }

    /** A map: its cells that are open, as 100 times x, and y. */
    static final class Chart {
        int from;
        int to;
        int depth;
        final Set<Integer> open = new TreeSet<>();

        boolean isShelter(int x, int y) {
            return y == depth && x >= from && x <= to;
        }
    }

    int hour;
    final int[][] hardness = new int[32][61];
    final boolean[][] open = new boolean[32][61];
    final List<Thing> bodies = new ArrayList<>();
    final int[] speeds = {20, 20, 20};
    final Thing[] at = new Thing[3];
    final int[] brokenTill = {-1, -1, -1};
    int spread = 2;
    final List<Chart> charts = new ArrayList<>();
    final StringBuilder tape = new StringBuilder();
    final List<Order> orders = new ArrayList<>();
    int spoons;
    int eaten;
    final int[] stuff = new int[10];
    final List<OnWay> onWay = new ArrayList<>();
    final List<Move> moves = new ArrayList<>();
    final List<Need> needs = new ArrayList<>();
    List<Integer> latestOrder = new ArrayList<>();
    int watchPlaces;
    List<Integer> watchers = new ArrayList<>();
    final List<Integer> misses = new ArrayList<>();
    final int[][] rocks = new int[4][6];
    List<Aim> latestAim = new ArrayList<>();
    List<Thing> lift = new ArrayList<>();
    int liftFrom;
    int liftHours;
    List<Integer> trace = new ArrayList<>();
    final Object[] shelves = new Object[6];

    Second() {
        for (int[] column : hardness) {
            Arrays.fill(column, 3);
        }
        for (int[] row : rocks) {
            Arrays.fill(row, 1);
        }
    }

    private static void need(boolean so, int refusal) {
        if (!so) {
            throw new Refused(refusal);
        }
    }

    private static void within(int v, int least, int most) {
        need(v >= least && v <= most, BAD);
    }

    private static void cellIn(int cell) {
        need(cell >= 0 && cell / 100 <= 31 && cell % 100 >= 1 && cell % 100 <= 60, BAD);
    }

    private static void spanIn(int span) {
        need(span >= 0 && span / 100 <= 31 && span % 100 <= 31 && span / 100 <= span % 100, BAD);
    }

    private Thing thing(int body) {
        within(body, 0, bodies.size() - 1);
        return bodies.get(body);
    }

    private Thing hole(int body) {
        Thing one = thing(body);
        need(one.isHole(), BAD);
        return one;
    }

    private Thing made(int kind) {
        need(bodies.size() < 120, FULL);
        Thing one = new Thing();
        one.number = bodies.size();
        one.kind = kind;
        bodies.add(one);
        return one;
    }

    private Thing theShelter() {
        for (Thing one : bodies) {
            if (one.kind == 6) {
                return one;
            }
        }
        return null;
    }

    private List<Thing> menBelow() {
        List<Thing> men = new ArrayList<>();
        for (Thing one : bodies) {
            if (one.kind == 7 && one.below) {
                men.add(one);
            }
        }
        return men;
    }

    private List<Thing> holesThrough() {
        List<Thing> holes = new ArrayList<>();
        for (Thing one : bodies) {
            if (one.throughIn >= 0) {
                holes.add(one);
            }
        }
        return holes;
    }

    int hard(int cell, int v) {
        cellIn(cell);
        within(v, 1, 9);
        int was = hardness[cell / 100][cell % 100];
        hardness[cell / 100][cell % 100] = v;
        return was;
    }

    int open(int cell, int is) {
        cellIn(cell);
        within(is, 0, 1);
        boolean was = open[cell / 100][cell % 100];
        open[cell / 100][cell % 100] = is == 1;
        return was ? 1 : 0;
    }

    int ofCell(int cell, int what) {
        cellIn(cell);
        within(what, 0, 1);
        return what == 0 ? hardness[cell / 100][cell % 100] : open[cell / 100][cell % 100] ? 1 : 0;
    }

    int body(int kind) {
        within(kind, 0, 1);
        return made(kind).number;
    }

    int hole(int kind, int what) {
        within(kind, 2, 5);
        need(what >= 0 && what / 100 <= 31 && what % 100 >= 1, BAD);
        Thing one = made(kind);
        one.begin = what / 100;
        one.truth = one.begin;
        one.width = what % 100;
        return one.number;
    }

    int shelter(int span, int yard) {
        spanIn(span);
        within(yard, 1, 60);
        need(theShelter() == null, NOT);
        Thing one = made(6);
        one.from = span / 100;
        one.to = span % 100;
        one.depth = yard;
        return one.number;
    }

    int man(int strength, int what) {
        within(strength, 0, 999);
        within(what, 0, 99);
        Thing one = made(7);
        one.strength = strength;
        one.skill = what / 10;
        one.ill = what % 10;
        one.below = true;
        return one.number;
    }

    int ofBody(int body, int what) {
        Thing one = thing(body);
        List<Integer> told = new ArrayList<>(List.of(one.kind));
        if (one.isHole()) {
            told.addAll(List.of(one.begin, one.width, one.met.size(), one.truth, one.throughIn >= 0 ? 1 : 0, one.minutes,
                one.leans.size()));
        } else if (one.kind == 6) {
            told.addAll(List.of(one.from, one.to, one.depth, one.holds ? 1 : 0));
        } else if (one.kind == 7) {
            told.addAll(List.of(one.strength, one.skill, one.ill, one.below ? 1 : 0));
        }
        within(what, 0, told.size() - 1);
        return told.get(what);
    }

    int ill(int man, int v) {
        Thing one = thing(man);
        need(one.kind == 7, BAD);
        within(v, 0, 9);
        int was = one.ill;
        one.ill = v;
        return was;
    }

    int speed(int machine, int v) {
        within(machine, 0, 2);
        within(v, 10, 60);
        int was = speeds[machine];
        speeds[machine] = v;
        return was;
    }

    int set(int machine, int hole) {
        within(machine, 0, 2);
        Thing to = hole == -1 ? null : hole(hole);
        for (int m = 0; m < 3; m++) {
            need(m == machine || to == null || at[m] != to, BAD);
        }
        int was = at[machine] == null ? -1 : at[machine].number;
        at[machine] = to;
        return was;
    }

    int breaks(int machine, int till) {
        within(machine, 0, 2);
        within(till, hour, 1699);
        brokenTill[machine] = till;
        return 1;
    }

    int yard(int hole, int lean) {
        Thing one = hole(hole);
        within(lean, -2, 2);
        need(one.throughIn < 0, NOT);
        need(one.leans.size() < 60, FULL);
        one.leans.add(lean);
        return one.leans.size();
    }

    int met(int hole, int yard) {
        Thing one = hole(hole);
        within(yard, 1, one.met.size());
        return one.met.get(yard - 1);
    }

    int log(int hole, int shelf, int i, int yard, int n) {
        Thing one = hole(hole);
        within(shelf, 0, 5);
        within(yard, 1, 60);
        within(n, 1, 60);
        Object row = shelves[shelf];
        need(row == null || row instanceof float[] || row instanceof double[], -12);
        int came = 0;
        for (int k = 0; k < n; k++) {
            int y = yard + k;
            if (y > 60) {
                break;
            }
            long place = (long) i + k;
            int length = row == null ? 0 : row instanceof float[] f ? f.length : ((double[]) row).length;
            if (place < 0 || place >= length) {
                for (int lost = y; lost <= 60; lost++) {
                    one.logs[lost] = null;
                }
                break;
            }
            double v = row instanceof float[] f ? f[(int) place] : ((double[]) row)[(int) place];
            if (v != v) {
                one.logs[y] = y > 1 && one.logs[y - 1] != null ? one.logs[y - 1] : 0;
            } else {
                one.logs[y] = (int) v;
            }
            came++;
        }
        return came;
    }

    int spread(int v) {
        within(v, 0, 8);
        int was = spread;
        spread = v;
        return was;
    }

    private int least(Thing hole, int yard) {
        double columns = hole.begin;
        for (int y = 1; y <= yard; y++) {
            columns += hole.logs[y] == null ? -2.0 : (hole.logs[y] - spread) / 4.0;
        }
        return (int) Math.max(0, Math.min(31, Math.floor(columns)));
    }

    private int most(Thing hole, int yard) {
        double columns = hole.begin;
        for (int y = 1; y <= yard; y++) {
            columns += hole.logs[y] == null ? 2.0 : (hole.logs[y] + spread) / 4.0;
        }
        return (int) Math.max(0, Math.min(31, Math.ceil(columns)));
    }

    int canBe(int hole, int yard, int what) {
        Thing one = hole(hole);
        within(yard, 1, one.met.size());
        within(what, 0, 1);
        return what == 0 ? least(one, yard) : most(one, yard);
    }

    int map(int span, int yard) {
        spanIn(span);
        within(yard, 1, 60);
        need(charts.size() < 8, FULL);
        Chart chart = new Chart();
        chart.from = span / 100;
        chart.to = span % 100;
        chart.depth = yard;
        charts.add(chart);
        return charts.size() - 1;
    }

    int old(int map, int cell) {
        within(map, 0, charts.size() - 1);
        cellIn(cell);
        Chart chart = charts.get(map);
        need(!chart.open.contains(cell), BAD);
        need(chart.open.size() < 40, FULL);
        chart.open.add(cell);
        return chart.open.size();
    }

    private boolean isUnlike(Chart chart, Thing hole, int yard) {
        int met = hole.met.get(yard - 1);
        boolean unlike = true;
        for (int x = least(hole, yard); x <= most(hole, yard); x++) {
            boolean says = chart.open.contains(100 * x + yard);
            boolean shelter = chart.isShelter(x, yard);
            unlike &= met == 0 ? says || shelter : met == 1 ? !says : !shelter;
        }
        return unlike;
    }

    int wrong(int map) {
        within(map, 0, charts.size() - 1);
        for (Thing one : bodies) {
            for (int yard = 1; yard <= one.met.size(); yard++) {
                if (isUnlike(charts.get(map), one, yard)) {
                    return 100 * one.number + yard;
                }
            }
        }
        return NOT;
    }

    int known(int what) {
        within(what, 0, 5);
        Set<Integer> allColumns = null;
        TreeSet<Integer> someColumns = new TreeSet<>();
        TreeSet<Integer> yards = new TreeSet<>();
        for (int map = 0; map < charts.size(); map++) {
            if (wrong(map) == NOT) {
                Set<Integer> columns = new TreeSet<>();
                for (int x = charts.get(map).from; x <= charts.get(map).to; x++) {
                    columns.add(x);
                }
                someColumns.addAll(columns);
                yards.add(charts.get(map).depth);
                if (allColumns == null) {
                    allColumns = new TreeSet<>(columns);
                }
                allColumns.retainAll(columns);
            }
        }
        need(allColumns != null, NOT);
        need(what < 4 || !allColumns.isEmpty() && yards.size() == 1, NOT);
        switch (what) {
            case 0: return someColumns.first();
            case 1: return someColumns.last();
            case 2: return yards.first();
            case 3: return yards.last();
            case 4: return Collections.min(allColumns);
            default: return Collections.max(allColumns);
        }
    }

    int feed(int n, int v) {
        within(n, 1, 4);
        need(tape.length() + n <= 160, FULL);
        for (int k = 0; k < n; k++) {
            tape.append((char) (v >>> 8 * k & 255));
        }
        return tape.length();
    }

    private static void orderIn(int what) {
        need(what == 0 || what == 1 || what == 2 || what == 10 || what == 11 || what == 12, BAD);
    }

    int text(int what, int from) {
        orderIn(what);
        within(from, hour, 1699);
        need(orders.size() < 16, FULL);
        String text = tape.toString();
        tape.setLength(0);
        int fault = TextsTest.faultOf(text);
        if (fault >= 0) {
            return -100 - fault;
        }
        orders.add(new Order(what / 10, what % 10, hour, from, text));
        return orders.size() - 1;
    }

    private Order orderFor(int side, int use, int forHour, int k) {
        boolean heard = false;
        for (Thing hole : holesThrough()) {
            heard |= hole.throughIn <= k;
        }
        Order found = null;
        for (Order one : orders) {
            if (one.use == use && one.made <= k && one.from <= forHour && (one.side == side || heard)) {
                found = one;
            }
        }
        return found;
    }

    int inForce(int what, int hour, int k) {
        orderIn(what);
        within(hour, 0, 1699);
        within(k, 0, 1699);
        Order one = orderFor(what / 10, what % 10, hour, k);
        need(one != null, NOT);
        int number = orders.size() - 1;
        while (orders.get(number) != one) {
            number--;
        }
        return number;
    }

    private int gives(int side, int use, Thing man) {
        Order one = orderFor(side, use, hour, hour);
        if (one == null) {
            return use == 0 ? 1 : 0;
        }
        int strength = man == null ? 0 : man.strength;
        int skill = man == null ? 0 : man.skill;
        int ill = man == null ? 0 : man.ill;
        return TextsTest.valueOf(one.text, hour, hour / 24, strength, skill, ill, menBelow().size(), spoons, holesThrough().size());
    }

    int says(int what, int man) {
        orderIn(what);
        if (what % 10 == 2) {
            need(man == -1, BAD);
            return gives(what / 10, 2, null);
        }
        Thing one = thing(man);
        need(one.kind == 7, BAD);
        return gives(what / 10, what % 10, one);
    }

    int hours(int n) {
        within(n, 1, 48);
        need(hour + n <= 1699, BAD);
        for (int k = 0; k < n; k++) {
            hourGoes();
        }
        return hour;
    }

    private void hourGoes() {
        hour++;
        boolean stop = gives(0, 2, null) != 0;
        for (Thing hole : bodies) {
            for (int m = 0; m < 3; m++) {
                if (at[m] == hole && !stop && brokenTill[m] < hour) {
                    hole.minutes += 60;
                    bore(hole, speeds[m]);
                }
            }
        }
        List<OnWay> now = new ArrayList<>();
        for (OnWay one : onWay) {
            if (one.hour == hour) {
                now.add(one);
                if (one.what % 10 == 0) {
                    spoons += one.what / 10;
                } else {
                    stuff[one.what - 10]++;
                }
            }
        }
        onWay.removeAll(now);
        if (hour % 24 == 0) {
            for (Thing man : menBelow()) {
                int wants = Math.max(0, Math.min(9, gives(1, 0, man)));
                int has = Math.min(wants, spoons);
                spoons -= has;
                eaten += has;
                man.strength = Math.max(0, Math.min(999, man.strength - 6 + 2 * has));
            }
        }
        for (Move move : moves) {
            if (move.hour == hour) {
                open[move.x][move.y] = false;
                hardness[move.x][move.y] = 9;
                Thing shelter = theShelter();
                if (shelter != null && shelter.depth == move.y && shelter.from <= move.x && move.x <= shelter.to) {
                    shelter.holds = true;
                }
            }
        }
    }

    private void bore(Thing hole, int speed) {
        while (hole.throughIn < 0 && hole.met.size() < hole.leans.size()) {
            int y = hole.met.size() + 1;
            int x = Math.max(0, Math.min(31, hole.truth + hole.leans.get(y - 1)));
            int minutes = open[x][y] ? 0 : speed * hardness[x][y];
            if (hole.minutes < minutes) {
                break;
            }
            hole.minutes -= minutes;
            hole.truth = x;
            Thing shelter = theShelter();
            boolean there = shelter != null && shelter.depth == y && shelter.from <= x && x <= shelter.to;
            hole.met.add(there ? 2 : open[x][y] ? 1 : 0);
            if (there) {
                hole.throughIn = hour;
            }
        }
    }

    int spoons(int v) {
        within(v, 0, 9999);
        int was = spoons;
        spoons = v;
        return was;
    }

    int move(int cell, int hour) {
        cellIn(cell);
        within(hour, this.hour + 1, 1699);
        need(moves.size() < 60, FULL);
        moves.add(new Move(cell / 100, cell % 100, hour));
        return moves.size();
    }

    private int lasts(int told, int each) {
        List<Integer> men = new ArrayList<>();
        for (Thing man : menBelow()) {
            men.add(man.strength);
        }
        int left = spoons;
        int days = -1;
        while (days < 60 && Collections.min(men) > told) {
            days++;
            for (int n = 0; n < men.size(); n++) {
                int has = Math.min(each, left);
                left -= has;
                men.set(n, Math.max(0, Math.min(999, men.get(n) - 6 + 2 * has)));
            }
        }
        return Math.max(0, days);
    }

    int last(int strength, int spoons) {
        within(strength, 0, 999);
        within(spoons, 0, 9);
        need(!menBelow().isEmpty(), NOT);
        return lasts(strength, spoons);
    }

    int best(int strength) {
        within(strength, 0, 999);
        need(!menBelow().isEmpty(), NOT);
        int best = 0;
        for (int each = 1; each <= 9; each++) {
            best = lasts(strength, each) > lasts(strength, best) ? each : best;
        }
        return best;
    }

    int down(int tube, int what, int hours) {
        Thing one = thing(tube);
        need(one.kind == 3, BAD);
        need(what >= 11 && what <= 19 || what >= 10 && what <= 9990 && what % 10 == 0, BAD);
        within(hours, 1, 9);
        need(one.throughIn >= 0, NOT);
        need(onWay.size() < 40, FULL);
        one.tubeFree = Math.max(one.tubeFree, hour) + hours;
        onWay.add(new OnWay(what, one.tubeFree));
        return one.tubeFree;
    }

    int below(int stuff) {
        within(stuff, 0, 9);
        return stuff == 0 ? spoons : this.stuff[stuff];
    }

    int need(int what, int need) {
        need(what >= 101 && what <= 999 && what % 100 != 0, BAD);
        within(need, 0, 99);
        need(needs.size() < 10, FULL);
        needs.add(new Need(what / 100, what % 100, need));
        return needs.size();
    }

    int order() {
        need(!needs.isEmpty(), BAD);
        latestOrder = new ArrayList<>();
        int[] least = {Integer.MAX_VALUE};
        tried(new ArrayList<>(), 0, 0, least);
        needs.clear();
        return least[0];
    }

    private void tried(List<Integer> places, int time, int sum, int[] least) {
        if (sum >= least[0]) {
            return;
        }
        if (places.size() == needs.size()) {
            least[0] = sum;
            latestOrder = new ArrayList<>(places);
            return;
        }
        for (int i = 0; i < needs.size(); i++) {
            if (!places.contains(i)) {
                Need one = needs.get(i);
                places.add(i);
                int done = time + one.hours;
                tried(places, done, sum + one.weight * Math.max(0, done - one.by), least);
                places.remove(places.size() - 1);
            }
        }
    }

    int ordered(int i) {
        within(i, 0, latestOrder.size() - 1);
        return latestOrder.get(i);
    }

    int watch(int places, int ill) {
        within(places, 1, 3);
        within(ill, 0, 9);
        watchPlaces = places;
        watchers = new ArrayList<>();
        List<Thing> men = menBelow();
        for (Thing man : men.subList(0, Math.min(9, men.size()))) {
            if (man.ill <= ill && watchers.size() < 3 * places) {
                watchers.add(man.number);
            }
        }
        return watchers.size();
    }

    int watched(int s, int p) {
        within(s, 0, 2);
        within(p, 0, watchPlaces - 1);
        int n = s * watchPlaces + p;
        need(n < watchers.size(), NOT);
        return watchers.get(n);
    }

    int aim(int column, int misses) {
        within(column, 0, 31);
        within(misses, 0, 9);
        need(this.misses.size() < 6, FULL);
        this.misses.add(misses);
        return this.misses.size();
    }

    int rock(int r, int i, int v) {
        within(r, 0, 3);
        within(i, 0, 5);
        within(v, 1, 9);
        int was = rocks[r][i];
        rocks[r][i] = v;
        return was;
    }

    int aimed(int r, int yard, int machines) {
        within(r, 1, 4);
        within(yard, 1, 60);
        within(machines, 1, 2);
        need(!misses.isEmpty(), BAD);
        need(machines == 1 || misses.size() >= 2, NOT);
        List<Aim> all = new ArrayList<>();
        for (int p = 0; p < misses.size(); p++) {
            for (int m = 0; m < 3; m++) {
                long worst = 0;
                for (int row = 0; row < r; row++) {
                    worst = Math.max(worst, (misses.get(p) + 1L) * yard * speeds[m] * rocks[row][p]);
                }
                all.add(new Aim(p, m, worst));
            }
        }
        List<Aim> found = machines == 1 ? List.of(Collections.min(all, Comparator.comparingLong(Aim::minutes)
            .thenComparing(Aim::place).thenComparing(Aim::machine))) : two(all);
        latestAim = found;
        misses.clear();
        return (int) found.stream().mapToLong(Aim::minutes).max().orElse(0);
    }

    private static List<Aim> two(List<Aim> all) {
        List<List<Aim>> ways = new ArrayList<>();
        for (Aim one : all) {
            for (Aim other : all) {
                if (one.machine < other.machine && one.place != other.place) {
                    ways.add(List.of(one, other));
                }
            }
        }
        return Collections.min(ways, Comparator
            .comparingLong((List<Aim> way) -> Math.max(way.get(0).minutes, way.get(1).minutes))
            .thenComparing(way -> way.get(0).place).thenComparing(way -> way.get(1).place)
            .thenComparing(way -> way.get(0).machine).thenComparing(way -> way.get(1).machine));
    }

    int aimedAt(int i, int what) {
        within(i, 0, latestAim.size() - 1);
        within(what, 0, 1);
        return what == 0 ? latestAim.get(i).place : latestAim.get(i).machine;
    }

    int race(int machine, int yard, int hard) {
        within(machine, 0, 2);
        within(yard, 1, 60);
        within(hard, 1, 9);
        Thing hole = at[machine];
        need(hole != null && hole.throughIn < 0 && hole.met.size() < yard, NOT);
        int minutes = hole.minutes;
        int then = hour;
        boolean there = false;
        while (!there && then < 9999) {
            then++;
            if (then > brokenTill[machine]) {
                minutes += 60;
                there = minutes >= (yard - hole.met.size()) * speeds[machine] * hard;
            }
        }
        return then;
    }

    int capsule(int shaft) {
        Thing one = thing(shaft);
        need(one.kind == 4 || one.kind == 5, BAD);
        need(one.throughIn >= 0 && !menBelow().isEmpty(), NOT);
        lift = menBelow();
        lift.sort((a, b) -> Integer.compare(gives(0, 1, b), gives(0, 1, a)));
        liftFrom = hour;
        liftHours = 1 + one.met.size() / 20;
        return liftFrom + liftHours * lift.size();
    }

    int up(int i, int what) {
        within(i, 0, lift.size() - 1);
        within(what, 0, 1);
        return what == 0 ? lift.get(i).number : liftFrom + liftHours * (i + 1);
    }

    int raise(int n) {
        within(n, 0, 199);
        need(!lift.isEmpty(), NOT);
        int raised = 0;
        for (int i = 0; i < Math.min(lift.size(), n / liftHours); i++) {
            raised += lift.get(i).below ? 1 : 0;
            lift.get(i).below = false;
        }
        return raised;
    }

    int act(int body, int act, int x) {
        trace = new ArrayList<>();
        if (body < 0 || body >= bodies.size() || act < 0 || act > 3) {
            return 0;
        }
        Thing one = bodies.get(body);
        ActsTest.TRACE.setLength(0);
        int answer = ActsTest.acted(ActsTest.made(one.kind, body, one.kind == 7 ? one.strength : one.width), act, x);
        for (String ran : ActsTest.TRACE.toString().trim().split(" ")) {
            trace.add(Integer.parseInt(ran));
        }
        return answer;
    }

    int trace(int i) {
        within(i, 0, Math.min(24, trace.size()) - 1);
        return trace.get(i);
    }

    int keep(int shelf, int body) {
        within(shelf, 0, 5);
        shelves[shelf] = body == -1 ? null : thing(body);
        return 1;
    }

    int row(int shelf, int sort, int n) {
        within(shelf, 0, 5);
        within(sort, 0, 4);
        need(n <= 60, BAD);
        try {
            switch (sort) {
                case 0: shelves[shelf] = new byte[n]; break;
                case 1: shelves[shelf] = new char[n]; break;
                case 2: shelves[shelf] = new int[n]; break;
                case 3: shelves[shelf] = new float[n]; break;
                default: shelves[shelf] = new double[n]; break;
            }
        } catch (NegativeArraySizeException e) {
            throw new Refused(-14);
        }
        return 1;
    }

    int put(int shelf, int i, long v) {
        within(shelf, 0, 5);
        Object row = shelves[shelf];
        need(v >= -9999 && v <= 9999 || !(row instanceof float[] || row instanceof double[]), BAD);
        need(row != null, -11);
        try {
            if (row instanceof byte[] b) {
                b[i] = (byte) v;
            } else if (row instanceof char[] c) {
                c[i] = (char) v;
            } else if (row instanceof int[] n) {
                n[i] = (int) v;
            } else if (row instanceof float[] f) {
                f[i] = v;
            } else {
                ((double[]) row)[i] = v;
            }
        } catch (ClassCastException e) {
            throw new Refused(-12);
        } catch (IndexOutOfBoundsException e) {
            throw new Refused(-13);
        }
        return 1;
    }

    int blank(int shelf, int i) {
        within(shelf, 0, 5);
        Object row = shelves[shelf];
        need(row != null, -11);
        try {
            if (row instanceof float[] f) {
                f[i] = Float.NaN;
            } else {
                ((double[]) row)[i] = Double.NaN;
            }
        } catch (ClassCastException e) {
            throw new Refused(-12);
        } catch (IndexOutOfBoundsException e) {
            throw new Refused(-13);
        }
        return 1;
    }

    long element(int shelf, int i) {
        within(shelf, 0, 5);
        Object row = shelves[shelf];
        try {
            if (row instanceof byte[] b) {
                return b[i];
            } else if (row instanceof char[] c) {
                return c[i];
            } else if (row instanceof int[] n) {
                return n[i];
            } else if (row instanceof float[] f) {
                return f[i] != f[i] ? Long.MAX_VALUE : (long) f[i];
            }
            double v = ((double[]) row)[i];
            return v != v ? Long.MAX_VALUE : (long) v;
        } catch (NullPointerException | ClassCastException | IndexOutOfBoundsException e) {
            throw new Refused(BAD);
        }
    }

    int shift(int shelf, int i, int other, int j, int n) {
        within(shelf, 0, 5);
        within(other, 0, 5);
        try {
            System.arraycopy(shelves[shelf], i, shelves[other], j, n);
        } catch (NullPointerException e) {
            throw new Refused(-11);
        } catch (ArrayStoreException e) {
            throw new Refused(-12);
        } catch (IndexOutOfBoundsException e) {
            throw new Refused(-13);
        }
        return n;
    }

    int taken(int shelf, int k) {
        within(shelf, 0, 5);
        within(k, 0, 7);
        need(shelves[shelf] != null, -11);
        need(shelves[shelf] instanceof Thing, -12);
        int kind = ((Thing) shelves[shelf]).kind;
        Set<Integer> under = new HashSet<>();
        for (int at = kind; at >= 0; at = ABOVE_OF[at]) {
            under.add(at);
        }
        need(under.contains(k), -12);
        return kind;
    }

    int count(int what) {
        int holes = 0;
        int bored = 0;
        for (Thing one : bodies) {
            holes += one.isHole() ? 1 : 0;
            bored += one.met.size();
        }
        int[] counts = {bodies.size(), holes, holesThrough().size(), menBelow().size(), hour, charts.size(), orders.size(),
            tape.length(), bored, eaten, onWay.size(), trace.size()};
        within(what, 0, counts.length - 1);
        return counts[what];
    }
}
