import java.util.Arrays;

/** Men behind a fallen ramp and those who drill for them; the document is ../shared/DOC.md. */
public final class ThirtyThreeBelow {
    public static final int BAD = -1, NOT = -2, FULL = -3, VOID = -2000000000;

    private static final int NOTHING_THERE = -11, OTHER_KIND = -12, NO_PLACE = -13, BELOW_NOTHING = -14;
    private static final int COLUMNS = 32, YARDS = 60, LAST_HOUR = 1699, DAY_HOURS = 24;
    private static final int MOST_BODIES = 120, MOST_MAPS = 8, MOST_TEXTS = 16, MACHINES = 3, SHELVES = 6;
    private static final int BODY = 0, WAY = 1, HOLE = 2, TUBE = 3, SHAFT = 4, LINER = 5, SHELTER = 6, MAN = 7;
    private static final int[] KIND_ABOVE = {-1, BODY, WAY, HOLE, HOLE, SHAFT, WAY, BODY};
    private static final int ROCK = 0, HOLLOW = 1, REFUGE = 2;
    private static final int ABOVE = 0, UNDER = 1;
    private static final int EATS = 0, FIRST = 1, STOP = 2;
    private static final int MOST_STRENGTH = 999;
    // Above every sum of minutes or of weights times HOURS.
    private static final int FAR = 1000000000;

    private final Mountain mountain;
    private final Bodies bodies;
    private final Crew crew;
    private final Machine[] machines;
    private final Chart[] charts;
    private int chartCount;
    private final Reader reader;
    private final Text[] texts;
    private int textCount;
    private final int[] names;
    private final int[] stack;
    private final Stores stores;
    private final Plans plans;
    private final Shelf[] shelves;
    private int hour;
    private int spreadQuarters;
    private int boredInAll;
    private int throughCount;
    private int firstThrough;

    public ThirtyThreeBelow() {
        mountain = new Mountain();
        crew = new Crew();
        bodies = new Bodies(crew);
        machines = new Machine[MACHINES];
        for (int m = 0; m < MACHINES; m++) {
            machines[m] = new Machine();
        }
        charts = new Chart[MOST_MAPS];
        reader = new Reader();
        texts = new Text[MOST_TEXTS];
        names = new int[Reader.NAMES.length()];
        stack = new int[Text.DEEPEST];
        stores = new Stores();
        plans = new Plans();
        shelves = new Shelf[SHELVES];
        for (int s = 0; s < SHELVES; s++) {
            shelves[s] = new Shelf();
        }
        spreadQuarters = 2;
        firstThrough = LAST_HOUR + 1;
    }

    // ---- the mountain, bodies

    public int hard(int cell, int v) {
        int place = placeOf(cell);
        if (place < 0 || v < 1 || v > 9) {
            return BAD;
        }
        int was = mountain.hardness[place];
        mountain.hardness[place] = v;
        return was;
    }

    public int open(int cell, int is) {
        int place = placeOf(cell);
        if (place < 0 || is < 0 || is > 1) {
            return BAD;
        }
        int was = mountain.hollow[place];
        mountain.hollow[place] = is;
        return was;
    }

    public int ofCell(int cell, int what) {
        int place = placeOf(cell);
        if (place < 0 || what < 0 || what > 1) {
            return BAD;
        }
        return what == 0 ? mountain.hardness[place] : mountain.hollow[place];
    }

    public int body(int kind) {
        if (kind != BODY && kind != WAY) {
            return BAD;
        }
        return bodies.added(kind);
    }

    public int hole(int kind, int what) {
        if (kind < HOLE || kind > LINER || what < 0) {
            return BAD;
        }
        int column = what / 100;
        int width = what % 100;
        if (column >= COLUMNS || width < 1) {
            return BAD;
        }
        return bodies.addedHole(kind, column, width);
    }

    public int shelter(int span, int yard) {
        if (!isSpan(span) || !isYard(yard)) {
            return BAD;
        }
        if (bodies.refuge >= 0) {
            return NOT;
        }
        return bodies.addedRefuge(span / 100, span % 100, yard);
    }

    public int man(int strength, int what) {
        if (strength < 0 || strength > MOST_STRENGTH || what < 0 || what > 99) {
            return BAD;
        }
        int number = bodies.added(MAN);
        if (number >= 0) {
            crew.comes(number, strength, what / 10, what % 10);
        }
        return number;
    }

    public int ofBody(int body, int what) {
        int kind = bodies.kindOf(body);
        if (kind < 0) {
            return VOID;
        }
        if (what == 0) {
            return kind;
        }
        Hole hole = bodies.holeOf(body);
        if (hole != null) {
            return hole.told(what);
        }
        if (kind == SHELTER) {
            return bodies.ofRefuge(what);
        }
        return kind == MAN ? crew.ofMan(body, what) : VOID;
    }

    public int ill(int man, int v) {
        if (bodies.kindOf(man) != MAN || v < 0 || v > 9) {
            return BAD;
        }
        int was = crew.illness[man];
        crew.illness[man] = v;
        return was;
    }

    // ---- machines, boring

    public int speed(int machine, int v) {
        Machine one = machineOf(machine);
        if (one == null || v < 10 || v > 60) {
            return BAD;
        }
        int was = one.pace;
        one.pace = v;
        return was;
    }

    public int set(int machine, int hole) {
        Machine one = machineOf(machine);
        if (one == null || hole != -1 && bodies.holeOf(hole) == null) {
            return VOID;
        }
        for (int m = 0; m < MACHINES; m++) {
            if (m != machine && hole != -1 && machines[m].at == hole) {
                return VOID;
            }
        }
        int was = one.at;
        one.at = hole;
        return was;
    }

    public int breaks(int machine, int till) {
        Machine one = machineOf(machine);
        if (one == null || till < hour || till > LAST_HOUR) {
            return BAD;
        }
        one.brokenTill = till;
        return 1;
    }

    public int yard(int hole, int lean) {
        Hole one = bodies.holeOf(hole);
        if (one == null || lean < -2 || lean > 2) {
            return BAD;
        }
        if (one.through) {
            return NOT;
        }
        if (one.yardsTold >= YARDS) {
            return FULL;
        }
        one.yardsTold++;
        one.leans[one.yardsTold] = lean;
        return one.yardsTold;
    }

    public int met(int hole, int yard) {
        Hole one = bodies.holeOf(hole);
        if (one == null || yard < 1 || yard > one.bored) {
            return BAD;
        }
        return one.found[yard];
    }

    public int log(int hole, int shelf, int i, int yard, int n) {
        Hole one = bodies.holeOf(hole);
        Shelf from = shelfOf(shelf);
        if (one == null || from == null || !isYard(yard) || n < 1 || n > YARDS) {
            return BAD;
        }
        if (from.holds == Shelf.A_BODY || from.holds == Shelf.A_ROW && !from.isReal()) {
            return OTHER_KIND;
        }
        return one.logged(from, i, yard, n);
    }

    public int spread(int v) {
        if (v < 0 || v > 8) {
            return BAD;
        }
        int was = spreadQuarters;
        spreadQuarters = v;
        return was;
    }

    public int canBe(int hole, int yard, int what) {
        Hole one = bodies.holeOf(hole);
        if (one == null || yard < 1 || yard > one.bored || what < 0 || what > 1) {
            return BAD;
        }
        int quarters = 4 * one.start;
        for (int y = 1; y <= yard; y++) {
            quarters += what == 0 ? one.leastLean(y, spreadQuarters) : one.mostLean(y, spreadQuarters);
        }
        return what == 0 ? cutDown(quarters) : cutUp(quarters);
    }

    // ---- maps

    public int map(int span, int yard) {
        if (!isSpan(span) || !isYard(yard)) {
            return BAD;
        }
        if (chartCount >= MOST_MAPS) {
            return FULL;
        }
        charts[chartCount] = new Chart(span / 100, span % 100, yard);
        chartCount++;
        return chartCount - 1;
    }

    public int old(int map, int cell) {
        Chart chart = chartOf(map);
        if (chart == null || placeOf(cell) < 0 || chart.lists(cell / 100, cell % 100)) {
            return BAD;
        }
        return chart.listed(cell / 100, cell % 100);
    }

    public int wrong(int map) {
        Chart chart = chartOf(map);
        return chart == null ? BAD : firstUnlike(chart);
    }

    public int known(int what) {
        if (what < 0 || what > 5) {
            return BAD;
        }
        int found = NOT;
        boolean alike = true;
        int leastEnd = COLUMNS;
        int greatestBegin = -1;
        int depth = 0;
        for (int m = 0; m < chartCount; m++) {
            Chart chart = charts[m];
            if (chart == null || firstUnlike(chart) != NOT) {
                continue;
            }
            boolean first = found == NOT;
            alike = alike && (first || chart.depth == depth);
            depth = chart.depth;
            greatestBegin = Math.max(greatestBegin, chart.begin);
            leastEnd = Math.min(leastEnd, chart.end);
            int v = chart.edge(what);
            found = first ? v : (what == 0 || what == 2 || what == 5) ? Math.min(found, v) : Math.max(found, v);
        }
        if (what >= 4 && (!alike || greatestBegin > leastEnd)) {
            return NOT;
        }
        return found;
    }

    // ---- orders

    public int feed(int n, int v) {
        if (n < 1 || n > 4) {
            return BAD;
        }
        return reader.fed(n, v);
    }

    public int text(int what, int from) {
        if (!isOrder(what) || from < hour || from > LAST_HOUR) {
            return BAD;
        }
        if (textCount >= MOST_TEXTS) {
            return FULL;
        }
        int fault = reader.compiled();
        reader.length = 0;
        if (fault >= 0) {
            return -100 - fault;
        }
        texts[textCount] = new Text(what / 10, what % 10, hour, from, reader.code());
        textCount++;
        return textCount - 1;
    }

    public int inForce(int what, int hour, int k) {
        if (!isOrder(what) || !isHour(hour) || !isHour(k)) {
            return BAD;
        }
        return latestText(what / 10, what % 10, hour, k);
    }

    public int says(int what, int man) {
        if (!isOrder(what)) {
            return VOID;
        }
        int use = what % 10;
        if (use == STOP ? man != -1 : bodies.kindOf(man) != MAN) {
            return VOID;
        }
        return given(latestText(what / 10, use, hour, hour), use, man);
    }

    // ---- hours, food

    public int hours(int n) {
        if (n < 1 || n > 48 || hour + n > LAST_HOUR) {
            return BAD;
        }
        for (int i = 0; i < n; i++) {
            hourGoesBy();
        }
        return hour;
    }

    public int spoons(int v) {
        if (v < 0 || v > 9999) {
            return BAD;
        }
        int was = stores.spoonsBelow;
        stores.spoonsBelow = v;
        return was;
    }

    public int move(int cell, int hour) {
        int place = placeOf(cell);
        if (place < 0 || hour <= this.hour || hour > LAST_HOUR) {
            return BAD;
        }
        return mountain.moveTold(cell, hour);
    }

    public int last(int strength, int spoons) {
        if (strength < 0 || strength > MOST_STRENGTH || spoons < 0 || spoons > 9) {
            return BAD;
        }
        if (crew.belowCount == 0) {
            return NOT;
        }
        return crew.daysKept(strength, spoons, stores.spoonsBelow);
    }

    public int best(int strength) {
        if (strength < 0 || strength > MOST_STRENGTH) {
            return BAD;
        }
        if (crew.belowCount == 0) {
            return NOT;
        }
        int found = 0;
        int most = -1;
        for (int each = 0; each <= 9; each++) {
            int days = crew.daysKept(strength, each, stores.spoonsBelow);
            if (days > most) {
                most = days;
                found = each;
            }
        }
        return found;
    }

    // ---- tubes, watches

    public int down(int tube, int what, int hours) {
        Hole one = bodies.holeOf(tube);
        if (one == null || bodies.kindOf(tube) != TUBE || !isThing(what) || hours < 1 || hours > 9) {
            return BAD;
        }
        if (!one.through) {
            return NOT;
        }
        if (stores.onWay >= Stores.MOST_ON_WAY) {
            return FULL;
        }
        one.tubeFree = Math.max(hour, one.tubeFree) + hours;
        stores.sends(what, one.tubeFree);
        return one.tubeFree;
    }

    public int below(int stuff) {
        if (stuff < 0 || stuff > 9) {
            return BAD;
        }
        return stuff == 0 ? stores.spoonsBelow : stores.stuffBelow[stuff];
    }

    public int need(int what, int need) {
        if (what < 100 || what > 999 || what % 100 == 0 || need < 0 || need > 99) {
            return BAD;
        }
        return plans.needTold(what / 100, what % 100, need);
    }

    public int order() {
        return plans.needCount == 0 ? BAD : plans.leastLateness();
    }

    public int ordered(int i) {
        return i < 0 || i >= plans.orderCount ? BAD : plans.orderPlaces[i];
    }

    public int watch(int places, int ill) {
        if (places < 1 || places > 3 || ill < 0 || ill > 9) {
            return BAD;
        }
        return crew.watchesMade(places, ill);
    }

    public int watched(int s, int p) {
        if (s < 0 || s > 2 || p < 0 || p >= crew.watchPlaces) {
            return BAD;
        }
        return crew.watchers[s * crew.watchPlaces + p];
    }

    // ---- aims, races, the capsule

    public int aim(int column, int misses) {
        if (column < 0 || column >= COLUMNS || misses < 0 || misses > 9) {
            return BAD;
        }
        return plans.aimTold(misses);
    }

    public int rock(int r, int i, int v) {
        if (r < 0 || r >= Plans.ROCK_ROWS || i < 0 || i >= Plans.MOST_AIMS || v < 1 || v > 9) {
            return BAD;
        }
        int at = r * Plans.MOST_AIMS + i;
        int was = plans.rocks[at];
        plans.rocks[at] = v;
        return was;
    }

    public int aimed(int r, int yard, int machines) {
        if (r < 1 || r > Plans.ROCK_ROWS || !isYard(yard) || machines < 1 || machines > 2 || plans.aimCount == 0) {
            return BAD;
        }
        if (machines == 2 && plans.aimCount < 2) {
            return NOT;
        }
        plans.weighPlaces(r, yard);
        int minutes = machines == 1 ? plans.soonestOne(this.machines) : plans.soonestTwo(this.machines);
        plans.aimCount = 0;
        return minutes;
    }

    public int aimedAt(int i, int what) {
        if (i < 0 || i >= plans.chosenCount || what < 0 || what > 1) {
            return BAD;
        }
        return what == 0 ? plans.chosenPlaces[i] : plans.chosenMachines[i];
    }

    public int race(int machine, int yard, int hard) {
        Machine one = machineOf(machine);
        if (one == null || !isYard(yard) || hard < 1 || hard > 9) {
            return BAD;
        }
        Hole hole = bodies.holeOf(one.at);
        if (hole == null || hole.through || hole.bored >= yard) {
            return NOT;
        }
        // Yards are bored just in an HOUR that gave its 60, so one such HOUR is due even where none is missing.
        int missing = Math.max(1, (yard - hole.bored) * one.pace * hard - hole.minutes);
        return Math.min(9999, Math.max(hour, one.brokenTill) + (missing + 59) / 60);
    }

    public int capsule(int shaft) {
        Hole hole = bodies.holeOf(shaft);
        int kind = bodies.kindOf(shaft);
        if (hole == null || kind != SHAFT && kind != LINER) {
            return BAD;
        }
        if (!hole.through || crew.belowCount == 0) {
            return NOT;
        }
        crew.liftBegins(hour, 1 + hole.bored / 20);
        int text = latestText(ABOVE, FIRST, hour, hour);
        for (int n = 0; n < bodies.total; n++) {
            if (crew.isBelow[n] == 1) {
                crew.liftTakes(n, given(text, FIRST, n));
            }
        }
        return crew.upAt(crew.liftCount - 1);
    }

    public int up(int i, int what) {
        if (i < 0 || i >= crew.liftCount || what < 0 || what > 1) {
            return BAD;
        }
        return what == 0 ? crew.liftMen[i] : crew.upAt(i);
    }

    public int raise(int n) {
        if (n < 0 || n > 199) {
            return BAD;
        }
        return crew.liftCount == 0 ? NOT : crew.raisedWithin(n);
    }

    // ---- acts, shelves

    public int act(int body, int act, int x) {
        return bodies.acted(body, act, x);
    }

    public int trace(int i) {
        return i < 0 || i >= bodies.ran || i >= Bodies.TRACE_KEPT ? BAD : bodies.ranBodies[i];
    }

    public int keep(int shelf, int body) {
        Shelf one = shelfOf(shelf);
        if (one == null || body != -1 && bodies.kindOf(body) < 0) {
            return BAD;
        }
        one.holds = body == -1 ? Shelf.NOTHING : Shelf.A_BODY;
        one.bodyNumber = body;
        return 1;
    }

    public int row(int shelf, int sort, int n) {
        Shelf one = shelfOf(shelf);
        if (one == null || sort < 0 || sort > Shelf.DOUBLES || n > Shelf.LONGEST) {
            return BAD;
        }
        if (n < 0) {
            return BELOW_NOTHING;
        }
        one.becomesRow(sort, n);
        return 1;
    }

    public int put(int shelf, int i, long v) {
        Shelf one = shelfOf(shelf);
        if (one == null || one.isReal() && (v < -9999 || v > 9999)) {
            return BAD;
        }
        int refusal = one.refusal(i);
        if (refusal == 0) {
            one.values[i] = one.narrowed(v);
        }
        return refusal == 0 ? 1 : refusal;
    }

    public int blank(int shelf, int i) {
        Shelf one = shelfOf(shelf);
        if (one == null) {
            return BAD;
        }
        if (one.holds == Shelf.A_ROW && !one.isReal()) {
            return OTHER_KIND;
        }
        int refusal = one.refusal(i);
        if (refusal == 0) {
            one.values[i] = Shelf.NO_NUMBER;
        }
        return refusal == 0 ? 1 : refusal;
    }

    public long element(int shelf, int i) {
        Shelf one = shelfOf(shelf);
        if (one == null || one.refusal(i) != 0) {
            return Shelf.REFUSED;
        }
        return one.values[i];
    }

    public int shift(int shelf, int i, int other, int j, int n) {
        Shelf from = shelfOf(shelf);
        Shelf to = shelfOf(other);
        if (from == null || to == null) {
            return BAD;
        }
        if (from.holds == Shelf.NOTHING || to.holds == Shelf.NOTHING) {
            return NOTHING_THERE;
        }
        if (from.holds != Shelf.A_ROW || to.holds != Shelf.A_ROW || from.sort != to.sort) {
            return OTHER_KIND;
        }
        if (!from.hasPlaces(i, n) || !to.hasPlaces(j, n)) {
            return NO_PLACE;
        }
        System.arraycopy(from.values, i, to.values, j, n);
        return n;
    }

    public int taken(int shelf, int k) {
        Shelf one = shelfOf(shelf);
        if (one == null || k < BODY || k > MAN) {
            return BAD;
        }
        if (one.holds == Shelf.NOTHING) {
            return NOTHING_THERE;
        }
        if (one.holds == Shelf.A_ROW || !bodies.isUnder(one.bodyNumber, k)) {
            return OTHER_KIND;
        }
        return bodies.kindOf(one.bodyNumber);
    }

    public int count(int what) {
        switch (what) {
            case 0: return bodies.total;
            case 1: return bodies.holeCount;
            case 2: return throughCount;
            case 3: return crew.belowCount;
            case 4: return hour;
            case 5: return chartCount;
            case 6: return textCount;
            case 7: return reader.length;
            case 8: return boredInAll;
            case 9: return stores.eaten;
            case 10: return stores.onWay;
            case 11: return bodies.ran;
            default: return BAD;
        }
    }

    // ---- what numbers mean

    private static boolean isYard(int yard) {
        return yard >= 1 && yard <= YARDS;
    }

    private static boolean isHour(int hour) {
        return hour >= 0 && hour <= LAST_HOUR;
    }

    private static boolean isSpan(int span) {
        return span >= 0 && span / 100 <= span % 100 && span % 100 < COLUMNS;
    }

    private static boolean isOrder(int what) {
        return what >= 0 && what / 10 <= UNDER && what % 10 <= STOP;
    }

    private static boolean isThing(int what) {
        if (what < 10) {
            return false;
        }
        return what % 10 == 0 ? what / 10 <= 999 : what / 10 == 1;
    }

    private static int placeOf(int cell) {
        if (cell < 0 || cell / 100 >= COLUMNS || !isYard(cell % 100)) {
            return -1;
        }
        return cell / 100 * YARDS + cell % 100 - 1;
    }

    private static int held(int v, int least, int most) {
        return Math.max(least, Math.min(most, v));
    }

    private static int cutDown(int quarters) {
        return held(Math.floorDiv(quarters, 4), 0, COLUMNS - 1);
    }

    private static int cutUp(int quarters) {
        return held(-Math.floorDiv(-quarters, 4), 0, COLUMNS - 1);
    }

    private Machine machineOf(int machine) {
        return machine < 0 || machine >= MACHINES ? null : machines[machine];
    }

    private Chart chartOf(int map) {
        return map < 0 || map >= chartCount ? null : charts[map];
    }

    private Shelf shelfOf(int shelf) {
        return shelf < 0 || shelf >= SHELVES ? null : shelves[shelf];
    }

    // ---- what holes say of maps

    private int firstUnlike(Chart chart) {
        for (int n = 0; n < bodies.total; n++) {
            Hole hole = bodies.holeOf(n);
            int yard = hole == null ? 0 : firstUnlikeYard(chart, hole);
            if (yard > 0) {
                return 100 * n + yard;
            }
        }
        return NOT;
    }

    private int firstUnlikeYard(Chart chart, Hole hole) {
        int least = 4 * hole.start;
        int most = least;
        for (int y = 1; y <= hole.bored; y++) {
            least += hole.leastLean(y, spreadQuarters);
            most += hole.mostLean(y, spreadQuarters);
            if (chart.isUnlike(y, cutDown(least), cutUp(most), hole.found[y])) {
                return y;
            }
        }
        return 0;
    }

    // ---- what orders give

    private int latestText(int side, int use, int forHour, int k) {
        boolean heard = firstThrough <= k;
        for (int t = textCount - 1; t >= 0; t--) {
            Text one = texts[t];
            if (one == null || one.use != use || one.made > k || one.from > forHour) {
                continue;
            }
            if (heard || one.side == side) {
                return t;
            }
        }
        return NOT;
    }

    private int given(int text, int use, int man) {
        Text one = text < 0 || text >= textCount ? null : texts[text];
        if (one == null) {
            return use == EATS ? 1 : 0;
        }
        boolean his = bodies.kindOf(man) == MAN;
        names[0] = hour;
        names[1] = hour / DAY_HOURS;
        names[2] = his ? crew.strengths[man] : 0;
        names[3] = his ? crew.skills[man] : 0;
        names[4] = his ? crew.illness[man] : 0;
        names[5] = crew.belowCount;
        names[6] = stores.spoonsBelow;
        names[7] = throughCount;
        return one.worth(names, stack);
    }

    // ---- an hour

    private void hourGoesBy() {
        hour++;
        if (given(latestText(ABOVE, STOP, hour, hour), STOP, -1) == 0) {
            machinesWork();
        }
        stores.arrivals(hour);
        if (hour % DAY_HOURS == 0) {
            menEat();
        }
        rockMoves();
    }

    // A yard bored changes nothing for another HOLE, so the MACHINES' order stands for the HOLES'.
    private void machinesWork() {
        for (int m = 0; m < MACHINES; m++) {
            Hole hole = bodies.holeOf(machines[m].at);
            if (hole != null && hour > machines[m].brokenTill) {
                hole.minutes += 60;
                boreOn(hole, machines[m].pace);
            }
        }
    }

    private void boreOn(Hole hole, int pace) {
        for (int y = hole.bored + 1; y <= hole.yardsTold && !hole.through; y++) {
            int column = held(hole.column + hole.leans[y], 0, COLUMNS - 1);
            int place = column * YARDS + y - 1;
            boolean hollow = mountain.hollow[place] == 1;
            int minutes = hollow ? 0 : pace * mountain.hardness[place];
            if (minutes > hole.minutes) {
                return;
            }
            hole.minutes -= minutes;
            hole.column = column;
            hole.bored = y;
            boredInAll++;
            boolean refuge = bodies.isRefuge(column, y);
            hole.found[y] = refuge ? REFUGE : hollow ? HOLLOW : ROCK;
            if (refuge) {
                hole.through = true;
                throughCount++;
                firstThrough = Math.min(firstThrough, hour);
            }
        }
    }

    private void menEat() {
        int text = latestText(UNDER, EATS, hour, hour);
        for (int n = 0; n < bodies.total; n++) {
            if (crew.isBelow[n] == 1) {
                int eaten = stores.eats(held(given(text, EATS, n), 0, 9));
                crew.strengths[n] = Crew.afterDay(crew.strengths[n], eaten);
            }
        }
    }

    private void rockMoves() {
        for (int m = 0; m < mountain.moves; m++) {
            int cell = mountain.moveCells[m];
            int place = placeOf(cell);
            if (mountain.moveHours[m] == hour && place >= 0) {
                mountain.hollow[place] = 0;
                mountain.hardness[place] = 9;
                if (bodies.isRefuge(cell / 100, cell % 100)) {
                    bodies.refugeHolds = 1;
                }
            }
        }
    }

    /** The cells, and the rows by which they move. */
    private static final class Mountain {
        static final int MOST_MOVES = 60;
        final int[] hardness = new int[COLUMNS * YARDS];
        final int[] hollow = new int[COLUMNS * YARDS];
        final int[] moveCells = new int[MOST_MOVES];
        final int[] moveHours = new int[MOST_MOVES];
        int moves;

        Mountain() {
            Arrays.fill(hardness, 3);
        }

        int moveTold(int cell, int hour) {
            if (moves >= MOST_MOVES) {
                return FULL;
            }
            moveCells[moves] = cell;
            moveHours[moves] = hour;
            moves++;
            return moves;
        }
    }

    /** All bodies by numbers, the shelter, and the acts. */
    private static final class Bodies {
        static final int TRACE_KEPT = 24;
        // No act of the document stands deeper; a guard that no fault can get past.
        static final int DEEPEST_ACT = 40;
        final int[] kinds = new int[MOST_BODIES];
        final Hole[] holes = new Hole[MOST_BODIES];
        final Crew crew;
        int total;
        int holeCount;
        int refuge = -1;
        int refugeBegin;
        int refugeEnd;
        int refugeYard;
        int refugeHolds;
        final int[] ranBodies = new int[TRACE_KEPT];
        int ran;

        Bodies(Crew crew) {
            this.crew = crew;
        }

        int kindOf(int body) {
            return body < 0 || body >= total ? -1 : kinds[body];
        }

        Hole holeOf(int body) {
            return body < 0 || body >= total ? null : holes[body];
        }

        boolean isUnder(int body, int kind) {
            int at = kindOf(body);
            for (int up = 0; up < KIND_ABOVE.length && at >= 0 && at != kind; up++) {
                at = KIND_ABOVE[at];
            }
            return at == kind;
        }

        int added(int kind) {
            if (total >= MOST_BODIES) {
                return FULL;
            }
            kinds[total] = kind;
            total++;
            return total - 1;
        }

        int addedHole(int kind, int column, int width) {
            int number = added(kind);
            if (number >= 0) {
                holes[number] = new Hole(column, width);
                holeCount++;
            }
            return number;
        }

        int addedRefuge(int begin, int end, int yard) {
            int number = added(SHELTER);
            if (number >= 0) {
                refuge = number;
                refugeBegin = begin;
                refugeEnd = end;
                refugeYard = yard;
            }
            return number;
        }

        boolean isRefuge(int column, int yard) {
            return refuge >= 0 && yard == refugeYard && column >= refugeBegin && column <= refugeEnd;
        }

        int ofRefuge(int what) {
            switch (what) {
                case 1: return refugeBegin;
                case 2: return refugeEnd;
                case 3: return refugeYard;
                case 4: return refugeHolds;
                default: return VOID;
            }
        }

        int acted(int body, int act, int x) {
            ran = 0;
            int kind = kindOf(body);
            if (kind < 0) {
                return 0;
            }
            switch (act) {
                case 0: return boresFrom(kind, body, x, 0);
                case 1: return carriesFrom(kind, body, x, 0);
                case 2: return holdsFrom(kind, body, x, 0);
                case 3: return tellsFrom(kind, body, x, 0);
                default: return 0;
            }
        }

        private void runs(int number) {
            if (ran < TRACE_KEPT) {
                ranBodies[ran] = number;
            }
            ran++;
        }

        private int boresFrom(int kind, int n, int x, int depth) {
            if (depth > DEEPEST_ACT) {
                return 0;
            }
            switch (kind) {
                case LINER:
                    runs(61);
                    return boresFrom(SHAFT, n, x, depth + 1) ^ 7;
                case SHAFT:
                    runs(50);
                    return boresFrom(HOLE, n, x + 1, depth + 1);
                case WAY: case HOLE: case TUBE: case SHELTER:
                    runs(20);
                    return boresFrom(BODY, n, x, depth + 1) * 2;
                default:
                    runs(1);
                    return x + n;
            }
        }

        private int carriesFrom(int kind, int n, int x, int depth) {
            if (depth > DEEPEST_ACT) {
                return 0;
            }
            switch (kind) {
                case HOLE: case TUBE: case SHAFT: case LINER:
                    runs(30);
                    return carriesFrom(WAY, n, x, depth + 1) + widthOf(n);
                case MAN:
                    runs(80);
                    return carriesFrom(BODY, n, x, depth + 1) - strengthOf(n);
                default:
                    runs(10);
                    return boresFrom(kindOf(n), n, x, depth + 1) - 1;
            }
        }

        private int holdsFrom(int kind, int n, int x, int depth) {
            if (depth > DEEPEST_ACT) {
                return 0;
            }
            switch (kind) {
                case TUBE: {
                    runs(40);
                    int held = holdsFrom(HOLE, n, x, depth + 1);
                    return held - carriesFrom(kindOf(n), n, 1, depth + 1);
                }
                case LINER:
                    runs(60);
                    return -holdsFrom(SHAFT, n, x, depth + 1);
                case SHELTER: {
                    runs(70);
                    int held = holdsFrom(WAY, n, x, depth + 1);
                    return held + carriesFrom(WAY, n, x, depth + 1);
                }
                default:
                    runs(11);
                    return x ^ n;
            }
        }

        private int tellsFrom(int kind, int n, int x, int depth) {
            if (depth > DEEPEST_ACT) {
                return 0;
            }
            switch (kind) {
                case SHAFT: case LINER:
                    runs(51);
                    return tellsFrom(HOLE, n, x, depth + 1) * 3;
                default: {
                    runs(2);
                    int carried = carriesFrom(kindOf(n), n, x, depth + 1);
                    return carried + holdsFrom(kindOf(n), n, 1, depth + 1);
                }
            }
        }

        private int widthOf(int n) {
            Hole hole = holeOf(n);
            return hole == null ? 0 : hole.width;
        }

        private int strengthOf(int n) {
            return kindOf(n) == MAN ? crew.strengths[n] : 0;
        }
    }

    /** A hole, tube, shaft or liner; its rows are by yards, place 0 is not used. */
    private static final class Hole {
        static final int NO_LOG = VOID;
        final int start;
        final int width;
        int column;
        int yardsTold;
        int bored;
        int minutes;
        boolean through;
        int tubeFree;
        final int[] leans = new int[YARDS + 1];
        final int[] found = new int[YARDS + 1];
        final int[] logs = new int[YARDS + 1];

        Hole(int start, int width) {
            this.start = start;
            this.width = width;
            column = start;
            Arrays.fill(logs, NO_LOG);
        }

        int told(int what) {
            switch (what) {
                case 1: return start;
                case 2: return width;
                case 3: return bored;
                case 4: return column;
                case 5: return through ? 1 : 0;
                case 6: return minutes;
                case 7: return yardsTold;
                default: return VOID;
            }
        }

        int logged(Shelf row, int i, int yard, int n) {
            int came = 0;
            for (int k = 0; k < n && yard + k <= YARDS; k++) {
                int y = yard + k;
                if (row.refusal(i + k) != 0) {
                    lostFrom(y);
                    return came;
                }
                long v = row.values[i + k];
                logs[y] = v == Shelf.NO_NUMBER ? logAhead(y) : (int) v;
                came++;
            }
            return came;
        }

        private void lostFrom(int yard) {
            for (int y = Math.max(1, yard); y <= YARDS; y++) {
                logs[y] = NO_LOG;
            }
        }

        private int logAhead(int y) {
            return y <= 1 || y > YARDS || logs[y - 1] == NO_LOG ? 0 : logs[y - 1];
        }

        int leastLean(int y, int spread) {
            return y < 1 || y > YARDS || logs[y] == NO_LOG ? -8 : logs[y] - spread;
        }

        int mostLean(int y, int spread) {
            return y < 1 || y > YARDS || logs[y] == NO_LOG ? 8 : logs[y] + spread;
        }
    }

    /** A machine: its minutes a yard, the hole where it is, and till when it is broken. */
    private static final class Machine {
        int pace = 20;
        int at = -1;
        int brokenTill = -1;
    }

    /** A map: where it says the shelter is, and its open cells as bits of columns by yards. */
    private static final class Chart {
        static final int MOST_LISTED = 40;
        final int begin;
        final int end;
        final int depth;
        final int[] openBits = new int[YARDS + 1];
        int listedCount;

        Chart(int begin, int end, int depth) {
            this.begin = begin;
            this.end = end;
            this.depth = depth;
        }

        static int bits(int from, int to) {
            return (-1 << from) & (-1 >>> (COLUMNS - 1 - to));
        }

        boolean lists(int column, int yard) {
            return isYard(yard) && (openBits[yard] & bits(column, column)) != 0;
        }

        int listed(int column, int yard) {
            if (listedCount >= MOST_LISTED) {
                return FULL;
            }
            if (isYard(yard)) {
                openBits[yard] |= bits(column, column);
                listedCount++;
            }
            return listedCount;
        }

        boolean isUnlike(int yard, int least, int most, int found) {
            int cells = bits(least, most);
            int opens = isYard(yard) ? openBits[yard] : 0;
            int refuge = yard == depth ? bits(begin, end) : 0;
            switch (found) {
                case ROCK: return (cells & ~(opens | refuge)) == 0;
                case HOLLOW: return (cells & opens) == 0;
                default: return (cells & refuge) == 0;
            }
        }

        // what as of known(): those that all have lie from the greatest begin to the least end.
        int edge(int what) {
            switch (what) {
                case 0: case 4: return begin;
                case 1: case 5: return end;
                default: return depth;
            }
        }
    }

    /** The tape, and the reader that makes a text's code of it. */
    private static final class Reader {
        static final int LONGEST = 160;
        static final int MOST_OPEN = 8;
        static final String NAMES = "hdskinft";
        final int[] tape = new int[LONGEST];
        int length;
        // Each byte gives one code at most, and the last line's end one more.
        private final int[] made = new int[LONGEST + 1];
        private int size;
        private int at;
        private int fault;

        int fed(int n, int v) {
            if (length + n > LONGEST) {
                return FULL;
            }
            for (int i = 0; i < n; i++) {
                tape[length] = (v >> (8 * i)) & 255;
                length++;
            }
            return length;
        }

        int[] code() {
            return Arrays.copyOf(made, size);
        }

        /** The FAULT, or -1: then code() has the text. */
        int compiled() {
            size = 0;
            at = 0;
            fault = -1;
            line();
            for (int i = 0; i < LONGEST && takes(';'); i++) {
                line();
            }
            if (fault < 0 && at < length) {
                fault = at;
            }
            return fault;
        }

        private void line() {
            either(0);
            if (takes('?')) {
                emit(Text.WHEN);
                either(0);
            }
            emit(Text.END);
        }

        private void either(int depth) {
            both(depth);
            for (int i = 0; i < LONGEST && takes('|'); i++) {
                both(depth);
                emit(Text.OR);
            }
        }

        private void both(int depth) {
            compared(depth);
            for (int i = 0; i < LONGEST && takes('&'); i++) {
                compared(depth);
                emit(Text.AND);
            }
        }

        private void compared(int depth) {
            sum(depth);
            int op = takes('<') ? Text.LESS : takes('=') ? Text.SAME : takes('>') ? Text.MORE : 0;
            if (op != 0) {
                sum(depth);
                emit(op);
            }
        }

        private void sum(int depth) {
            product(depth);
            int op = plusOrMinus();
            for (int i = 0; i < LONGEST && op != 0; i++) {
                product(depth);
                emit(op);
                op = plusOrMinus();
            }
        }

        private int plusOrMinus() {
            return takes('+') ? Text.PLUS : takes('-') ? Text.MINUS : 0;
        }

        private void product(int depth) {
            single(depth);
            int op = timesOrOver();
            for (int i = 0; i < LONGEST && op != 0; i++) {
                single(depth);
                emit(op);
                op = timesOrOver();
            }
        }

        private int timesOrOver() {
            return takes('*') ? Text.TIMES : takes('/') ? Text.OVER : takes('%') ? Text.REST : 0;
        }

        private void single(int depth) {
            if (fault >= 0) {
                return;
            }
            if (isDigit()) {
                number();
            } else if (depth < MOST_OPEN && takes('(')) {
                either(depth + 1);
                if (!takes(')')) {
                    fails();
                }
            } else if (depth < MOST_OPEN && takes('!')) {
                single(depth + 1);
                emit(Text.NO);
            } else if (depth < MOST_OPEN && takes('-')) {
                single(depth + 1);
                emit(Text.NEGATED);
            } else {
                name();
            }
        }

        private void number() {
            int v = 0;
            for (int digits = 0; digits < 5 && isDigit(); digits++) {
                v = v * 10 + tape[at] - '0';
                at++;
            }
            emit(v);
        }

        private void name() {
            int which = at < length ? NAMES.indexOf((char) tape[at]) : -1;
            if (which < 0) {
                fails();
                return;
            }
            at++;
            emit(Text.FIRST_NAME - which);
        }

        private boolean isDigit() {
            return at < length && tape[at] >= '0' && tape[at] <= '9';
        }

        private boolean takes(char sign) {
            if (fault >= 0 || at >= length || tape[at] != sign) {
                return false;
            }
            at++;
            return true;
        }

        private void fails() {
            if (fault < 0) {
                fault = at;
            }
        }

        private void emit(int code) {
            if (fault < 0 && size < made.length) {
                made[size] = code;
                size++;
            }
        }
    }

    /** An order: its code has operands ahead of what is done with them; numbers stand for themselves. */
    private static final class Text {
        static final int FIRST_NAME = -1;
        static final int OR = -11, AND = -12, LESS = -13, SAME = -14, MORE = -15;
        static final int PLUS = -16, MINUS = -17, TIMES = -18, OVER = -19, REST = -20;
        static final int NO = -21, NEGATED = -22, WHEN = -23, END = -24;
        // Five operands wait at most at each of nine depths of brackets, and one is at work.
        static final int DEEPEST = 64;
        final int side;
        final int use;
        final int made;
        final int from;
        private final int[] code;

        Text(int side, int use, int made, int from, int[] code) {
            this.side = side;
            this.use = use;
            this.made = made;
            this.from = from;
            this.code = code;
        }

        int worth(int[] names, int[] stack) {
            int top = -1;
            boolean counts = true;
            for (int at = 0; at < code.length; at++) {
                int c = code[at];
                if (c > OR) {
                    top = Math.min(top + 1, stack.length - 1);
                    stack[top] = c >= 0 ? c : nameAt(names, FIRST_NAME - c);
                } else if (top < 0) {
                    return 0;
                } else if (c == END) {
                    if (counts) {
                        return stack[top];
                    }
                    counts = true;
                    top--;
                } else if (c == WHEN) {
                    counts = stack[top] != 0;
                    top--;
                } else if (c == NO) {
                    stack[top] = stack[top] == 0 ? 1 : 0;
                } else if (c == NEGATED) {
                    stack[top] = -stack[top];
                } else if (top > 0) {
                    top--;
                    stack[top] = joined(c, stack[top], stack[top + 1]);
                }
            }
            return 0;
        }

        private static int nameAt(int[] names, int which) {
            return which < 0 || which >= names.length ? 0 : names[which];
        }

        private static int joined(int op, int a, int b) {
            switch (op) {
                case OR: return a != 0 || b != 0 ? 1 : 0;
                case AND: return a != 0 && b != 0 ? 1 : 0;
                case LESS: return a < b ? 1 : 0;
                case SAME: return a == b ? 1 : 0;
                case MORE: return a > b ? 1 : 0;
                case PLUS: return a + b;
                case MINUS: return a - b;
                case TIMES: return a * b;
                case OVER: return b == 0 ? 0 : a / b;
                case REST: return b == 0 ? 0 : a % b;
                default: return 0;
            }
        }
    }

    /** What is below, and what is on its way down. */
    private static final class Stores {
        static final int MOST_ON_WAY = 40;
        int spoonsBelow;
        int eaten;
        final int[] stuffBelow = new int[10];
        final int[] things = new int[MOST_ON_WAY];
        final int[] thingHours = new int[MOST_ON_WAY];
        int onWay;

        void sends(int thing, int hour) {
            if (onWay < MOST_ON_WAY) {
                things[onWay] = thing;
                thingHours[onWay] = hour;
                onWay++;
            }
        }

        void arrivals(int hour) {
            int left = 0;
            for (int i = 0; i < onWay; i++) {
                if (thingHours[i] <= hour) {
                    comesBelow(things[i]);
                } else {
                    things[left] = things[i];
                    thingHours[left] = thingHours[i];
                    left++;
                }
            }
            onWay = left;
        }

        private void comesBelow(int thing) {
            int stuff = thing % 10;
            if (stuff == 0) {
                spoonsBelow += thing / 10;
            } else if (stuff > 0) {
                stuffBelow[stuff]++;
            }
        }

        int eats(int wanted) {
            int n = Math.min(wanted, spoonsBelow);
            spoonsBelow -= n;
            eaten += n;
            return n;
        }
    }

    /** The order of things to let down, and the columns to aim from. */
    private static final class Plans {
        static final int MOST_NEEDS = 10, MOST_AIMS = 6, ROCK_ROWS = 4;
        final int[] needHours = new int[MOST_NEEDS];
        final int[] needWeights = new int[MOST_NEEDS];
        final int[] needBy = new int[MOST_NEEDS];
        int needCount;
        // By the set of things already down (as bits): the least sum that those left can give.
        private final int[] leastLeft = new int[1 << MOST_NEEDS];
        private final int[] setHours = new int[1 << MOST_NEEDS];
        final int[] orderPlaces = new int[MOST_NEEDS];
        int orderCount;
        final int[] aimMisses = new int[MOST_AIMS];
        int aimCount;
        final int[] rocks = new int[ROCK_ROWS * MOST_AIMS];
        // Minutes of each place in its worst row by a MACHINE of SPEED 1.
        private final int[] worst = new int[MOST_AIMS];
        final int[] chosenPlaces = new int[2];
        final int[] chosenMachines = new int[2];
        int chosenCount;

        Plans() {
            Arrays.fill(rocks, 1);
        }

        int needTold(int hours, int weight, int by) {
            if (needCount >= MOST_NEEDS) {
                return FULL;
            }
            needHours[needCount] = hours;
            needWeights[needCount] = weight;
            needBy[needCount] = by;
            needCount++;
            return needCount;
        }

        int leastLateness() {
            int all = (1 << needCount) - 1;
            setHours[0] = 0;
            for (int i = 0; i < needCount; i++) {
                for (int set = 0; set < 1 << i; set++) {
                    setHours[set | 1 << i] = setHours[set] + needHours[i];
                }
            }
            leastLeft[all] = 0;
            for (int set = all - 1; set >= 0; set--) {
                int least = FAR;
                for (int i = 0; i < needCount; i++) {
                    if ((set & 1 << i) == 0) {
                        least = Math.min(least, sumWith(set, i));
                    }
                }
                leastLeft[set] = least;
            }
            placesFollow();
            needCount = 0;
            return leastLeft[0];
        }

        private int sumWith(int set, int i) {
            int late = Math.max(0, setHours[set] + needHours[i] - needBy[i]);
            return needWeights[i] * late + leastLeft[set | 1 << i];
        }

        private void placesFollow() {
            int set = 0;
            for (int place = 0; place < needCount; place++) {
                int i = 0;
                while (i < needCount - 1 && ((set & 1 << i) != 0 || sumWith(set, i) != leastLeft[set])) {
                    i++;
                }
                orderPlaces[place] = i;
                set |= 1 << i;
            }
            orderCount = needCount;
        }

        int aimTold(int misses) {
            if (aimCount >= MOST_AIMS) {
                return FULL;
            }
            aimMisses[aimCount] = misses;
            aimCount++;
            return aimCount;
        }

        void weighPlaces(int rows, int yards) {
            for (int p = 0; p < aimCount; p++) {
                int hardest = 1;
                for (int r = 0; r < rows && r < ROCK_ROWS; r++) {
                    hardest = Math.max(hardest, rocks[r * MOST_AIMS + p]);
                }
                worst[p] = (aimMisses[p] + 1) * yards * hardest;
            }
        }

        int soonestOne(Machine[] machines) {
            int least = FAR;
            for (int p = 0; p < aimCount; p++) {
                for (int m = 0; m < machines.length; m++) {
                    int minutes = worst[p] * machines[m].pace;
                    if (minutes < least) {
                        least = minutes;
                        chosenPlaces[0] = p;
                        chosenMachines[0] = m;
                    }
                }
            }
            chosenCount = 1;
            return least;
        }

        int soonestTwo(Machine[] machines) {
            int least = FAR;
            for (int p = 0; p < aimCount; p++) {
                for (int q = 0; q < aimCount; q++) {
                    if (p != q) {
                        least = soonestPair(machines, p, q, least);
                    }
                }
            }
            chosenCount = 2;
            return least;
        }

        private int soonestPair(Machine[] machines, int p, int q, int least) {
            int found = least;
            for (int m = 0; m < machines.length; m++) {
                for (int o = m + 1; o < machines.length; o++) {
                    int minutes = Math.max(worst[p] * machines[m].pace, worst[q] * machines[o].pace);
                    if (minutes < found) {
                        found = minutes;
                        chosenPlaces[0] = p;
                        chosenMachines[0] = m;
                        chosenPlaces[1] = q;
                        chosenMachines[1] = o;
                    }
                }
            }
            return found;
        }
    }

    /** The men by the numbers of their bodies, their watches, and the capsule's latest list. */
    private static final class Crew {
        static final int MOST_DAYS = 60, WATCHMEN = 9;
        final int[] strengths = new int[MOST_BODIES];
        final int[] skills = new int[MOST_BODIES];
        final int[] illness = new int[MOST_BODIES];
        final int[] isBelow = new int[MOST_BODIES];
        int belowCount;
        private final int[] trial = new int[MOST_BODIES];
        final int[] watchers = new int[WATCHMEN];
        int watchPlaces;
        final int[] liftMen = new int[MOST_BODIES];
        private final int[] liftFirsts = new int[MOST_BODIES];
        int liftCount;
        private int liftFrom;
        private int liftHours;

        void comes(int number, int strength, int skill, int ill) {
            if (number < 0 || number >= MOST_BODIES) {
                return;
            }
            strengths[number] = strength;
            skills[number] = skill;
            illness[number] = ill;
            isBelow[number] = 1;
            belowCount++;
        }

        int ofMan(int number, int what) {
            if (number < 0 || number >= MOST_BODIES) {
                return VOID;
            }
            switch (what) {
                case 1: return strengths[number];
                case 2: return skills[number];
                case 3: return illness[number];
                case 4: return isBelow[number];
                default: return VOID;
            }
        }

        static int afterDay(int strength, int eaten) {
            return held(strength - 6 + 2 * eaten, 0, MOST_STRENGTH);
        }

        int daysKept(int told, int each, int spoons) {
            int men = 0;
            for (int n = 0; n < MOST_BODIES; n++) {
                if (isBelow[n] == 1) {
                    if (strengths[n] <= told) {
                        return 0;
                    }
                    trial[men] = strengths[n];
                    men++;
                }
            }
            int left = spoons;
            for (int day = 0; day < MOST_DAYS; day++) {
                for (int i = 0; i < men; i++) {
                    int eaten = Math.min(each, left);
                    left -= eaten;
                    trial[i] = afterDay(trial[i], eaten);
                    if (trial[i] <= told) {
                        return day;
                    }
                }
            }
            return MOST_DAYS;
        }

        // Who can watch one place can watch any, so the lesser men in turn are the most and the first.
        int watchesMade(int places, int ill) {
            watchPlaces = places;
            Arrays.fill(watchers, NOT);
            int seen = 0;
            int found = 0;
            for (int n = 0; n < MOST_BODIES && seen < WATCHMEN && found < 3 * places; n++) {
                if (isBelow[n] == 1) {
                    seen++;
                    if (illness[n] <= ill) {
                        watchers[found] = n;
                        found++;
                    }
                }
            }
            return found;
        }

        void liftBegins(int hour, int hoursEach) {
            liftCount = 0;
            liftFrom = hour;
            liftHours = hoursEach;
        }

        /** Men come by rising numbers, so one goes behind those of a like FIRST. */
        void liftTakes(int man, int first) {
            if (liftCount >= MOST_BODIES) {
                return;
            }
            int at = liftCount;
            while (at > 0 && liftFirsts[at - 1] < first) {
                liftMen[at] = liftMen[at - 1];
                liftFirsts[at] = liftFirsts[at - 1];
                at--;
            }
            liftMen[at] = man;
            liftFirsts[at] = first;
            liftCount++;
        }

        int upAt(int i) {
            return liftFrom + (i + 1) * liftHours;
        }

        int raisedWithin(int hours) {
            int raised = 0;
            for (int i = 0; i < liftCount && (i + 1) * liftHours <= hours; i++) {
                int man = liftMen[i];
                if (man >= 0 && man < MOST_BODIES && isBelow[man] == 1) {
                    isBelow[man] = 0;
                    belowCount--;
                    raised++;
                }
            }
            return raised;
        }
    }

    /** A shelf: nothing, a body, or a row whose elements are kept as longs of its sort's range. */
    private static final class Shelf {
        static final int NOTHING = 0, A_BODY = 1, A_ROW = 2;
        static final int BYTES = 0, CHARS = 1, INTS = 2, FLOATS = 3, DOUBLES = 4;
        static final int LONGEST = 60;
        static final long NO_NUMBER = 9223372036854775807L;
        static final long REFUSED = -NO_NUMBER - 1;
        int holds;
        int bodyNumber;
        int sort;
        int length;
        final long[] values = new long[LONGEST];

        boolean isReal() {
            return holds == A_ROW && (sort == FLOATS || sort == DOUBLES);
        }

        void becomesRow(int newSort, int n) {
            holds = A_ROW;
            sort = newSort;
            length = n;
            Arrays.fill(values, 0);
        }

        /** 0, if element i of a row is there. */
        int refusal(int i) {
            if (holds == NOTHING) {
                return NOTHING_THERE;
            }
            if (holds != A_ROW) {
                return OTHER_KIND;
            }
            return i < 0 || i >= length ? NO_PLACE : 0;
        }

        boolean hasPlaces(int i, int n) {
            return i >= 0 && n >= 0 && n <= length && i <= length - n;
        }

        long narrowed(long v) {
            switch (sort) {
                case BYTES: return (byte) v;
                case CHARS: return (char) v;
                case INTS: return (int) v;
                default: return v;
            }
        }
    }
}
