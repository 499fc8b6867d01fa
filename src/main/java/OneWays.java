import java.util.Arrays;

/** A town of alleys, each to be given one way; DOC.md says what each call promises. */
public final class OneWays {
    public static final int NONE = -1;

    private static final int NO_SUCH = -2;
    private static final int REFUSED = -3;
    private static final int FAULTY = -4;
    private static final int UNFIT = -5;
    private static final int EMPTY = -6;
    private static final int BEYOND = -7;
    private static final int UNLIKE = -8;
    private static final int NOTHING = -2000000000;

    private static final int MOST_CORNERS = 16;
    private static final int MOST_ALLEYS = 28;
    private static final int MOST_JOURNEYS = 10;
    private static final int MOST_STREETS = 6;
    private static final int MOST_IN_STREET = 6;
    private static final int MOST_BYTES = 800;
    private static final int FED_BYTES = 20;
    private static final int GIVINGS = 2;
    private static final int IMAGES = 3;
    private static final int SLOTS = 4;
    private static final int WIDTHS = 4;
    private static final int MOST_IN_ROW = 60;
    private static final int MOST_PAYABLE = 9;
    private static final int MOST_OPEN = 10;
    private static final int MOST_TURNINGS = 50;
    private static final int MOST_COIN = 9999;
    private static final int MOST_STEPS = 100;
    private static final int MOST_MINUTES = 60;
    private static final int MOST_REACH = 9999;
    private static final int DAY = 1440;

    private static final int OPEN = 0;
    private static final int FORWARD = 1;
    private static final int BACKWARD = 2;
    private static final int BOTH = 3;

    /** Above all minutes that any way through a town can take; two of them still fit an int. */
    private static final int FAR = 1000000;
    /** Above every SUM and every price. */
    private static final int NO_LIMIT = 1000000000;

    private final byte[] tape = new byte[MOST_BYTES];
    private int tapeSize = 0;
    private final TownReader reader = new TownReader();
    private final State now = new State();
    private final State[] images = new State[IMAGES];
    private final Slot[] slots = new Slot[SLOTS];
    private final Paths paths = new Paths();
    private final Endings endings = new Endings(paths);
    private final Turnings turnings = new Turnings(paths);
    private final Purse purse = new Purse(paths);
    private final int[] judged = new int[MOST_ALLEYS];
    private int pairFrom = NONE;
    private int pairTo = NONE;
    private int spareFrom = NONE;
    private int spareTo = NONE;

    public OneWays() {
        for (int k = 0; k < IMAGES; k++) {
            images[k] = new State();
        }
        for (int s = 0; s < SLOTS; s++) {
            slots[s] = new Slot();
        }
        paths.settle(now.town);
    }

    // ---- the text

    public int feed(int a, int b, int c, int d, int e) {
        if (tapeSize + FED_BYTES > MOST_BYTES) {
            return NONE;
        }
        appendBytes(a);
        appendBytes(b);
        appendBytes(c);
        appendBytes(d);
        appendBytes(e);
        return tapeSize;
    }

    private void appendBytes(int number) {
        for (int shift = 24; shift >= 0; shift -= 8) {
            tape[tapeSize] = (byte) (number >> shift);
            tapeSize++;
        }
    }

    public int end(int n) {
        if (n < 0 || n > tapeSize) {
            return NONE;
        }
        tapeSize = n;
        return n;
    }

    public int text() {
        if (!reader.read(tape, tapeSize)) {
            return FAULTY;
        }
        tapeSize = 0;
        Town old = now.town;
        now.town = reader.draft;
        reader.draft = old;
        paths.settle(now.town);
        for (int g = 0; g < GIVINGS; g++) {
            now.openAll(g);
        }
        return now.town.lines;
    }

    public int fault(int what) {
        if (what == 0) {
            return reader.fault;
        }
        return what == 1 ? reader.place : NONE;
    }

    // ---- ways by hand

    public int give(int g, int alley, int way) {
        if (!isGiving(g) || !isAlley(alley) || !now.town.mayGive(alley, way)) {
            return NO_SUCH;
        }
        int was = now.ways[g][alley];
        now.ways[g][alley] = way;
        return was;
    }

    public int gives(int g, int slot) {
        if (!isGiving(g) || !isSlot(slot)) {
            return NO_SUCH;
        }
        Slot row = slots[slot];
        if (!row.isThere()) {
            return EMPTY;
        }
        int given = 0;
        int both = Math.min(row.size, now.town.alleys);
        for (int a = 0; a < both; a++) {
            if (now.town.mayGive(a, row.numbers[a])) {
                now.ways[g][a] = (int) row.numbers[a];
                given++;
            }
        }
        return given;
    }

    public int way(int g, int alley) {
        return isGiving(g) && isAlley(alley) ? now.ways[g][alley] : NONE;
    }

    public int clear(int g) {
        return isGiving(g) ? now.openAll(g) : NO_SUCH;
    }

    // ---- whether it can be ended

    public int whole(int g) {
        if (!isGiving(g)) {
            return NO_SUCH;
        }
        return paths.isWhole(now.town, now.ways[g]) ? 1 : 0;
    }

    public int can(int g) {
        if (!isGiving(g)) {
            return NO_SUCH;
        }
        return endings.canEnd(now.town, now.ways[g]) ? 1 : 0;
    }

    public int bar(int g) {
        if (!isGiving(g)) {
            return NO_SUCH;
        }
        return paths.isWhole(now.town, now.ways[g]) ? endings.barring(now.town, now.ways[g]) : REFUSED;
    }

    public int cut(int g) {
        if (!isGiving(g)) {
            return NO_SUCH;
        }
        int all = now.town.allCorners();
        for (int c = 0; c < now.town.corners; c++) {
            int reached = paths.reachedFrom(now.town, now.ways[g], c);
            if (reached != all) {
                return reached;
            }
        }
        return 0;
    }

    public int show(int g) {
        return isGiving(g) ? endings.endAsShown(now.town, now.ways[g]) : NO_SUCH;
    }

    public int forced(int g) {
        return isGiving(g) ? endings.forcedAlleys(now.town, now.ways[g]) : NO_SUCH;
    }

    public int forcedWay(int g, int alley) {
        if (!isGiving(g) || !isAlley(alley)) {
            return NONE;
        }
        return endings.onlyWay(now.town, now.ways[g], alley);
    }

    // ---- minutes, ROUNDS and the BEST

    public int minutes(int g, int a, int b) {
        if (!isGiving(g) || !isCorner(a) || !isCorner(b)) {
            return NO_SUCH;
        }
        return orNone(paths.between(now.town, now.ways[g], a, b));
    }

    public int round(int g, int journey) {
        if (!isGiving(g) || !isJourney(journey)) {
            return NO_SUCH;
        }
        return paths.roundOf(now.town, now.ways[g], journey);
    }

    public int sum(int g) {
        return isGiving(g) ? paths.sumOf(now.town, now.ways[g], false, NO_LIMIT) : NO_SUCH;
    }

    public int worst(int g) {
        return isGiving(g) ? paths.worstOf(now.town, now.ways[g], NO_LIMIT) : NO_SUCH;
    }

    public int best(int g, int what) {
        if (!isGiving(g) || what < 0 || what > 1) {
            return NO_SUCH;
        }
        if (now.openOnes(g) > MOST_OPEN) {
            return REFUSED;
        }
        return endings.endAsBest(now.town, now.ways[g], what == 1);
    }

    public int better(int g) {
        if (!isGiving(g)) {
            return NO_SUCH;
        }
        if (!isComplete(g)) {
            return UNFIT;
        }
        for (int done = 0; done < MOST_TURNINGS; done++) {
            int turning = turnings.firstTurning(now.town, now.ways[g]);
            if (turning == 0) {
                return done;
            }
            turnings.turn(now.town, now.ways[g], turning);
        }
        return MOST_TURNINGS;
    }

    public int alike(int g) {
        if (!isGiving(g)) {
            return NO_SUCH;
        }
        int unlike = 0;
        for (int s = 0; s < now.town.streets.size; s++) {
            if (!now.town.streets.isAlike(s, now.ways[g])) {
                unlike |= 1 << s;
            }
        }
        return unlike;
    }

    public int known(int g) {
        if (!isGiving(g)) {
            return NO_SUCH;
        }
        return now.town.gridWide == 0 ? EMPTY : now.town.goByTurns(now.ways[g]);
    }

    public int ring(int g, int alley) {
        if (!isGiving(g) || !isAlley(alley)) {
            return NO_SUCH;
        }
        return orNone(paths.ringMinutes(now.town, now.ways[g], alley));
    }

    public int ended(int g) {
        if (!isGiving(g)) {
            return NO_SUCH;
        }
        if (!isComplete(g)) {
            return UNFIT;
        }
        return turnings.firstTurning(now.town, now.ways[g]) == 0 ? 1 : 0;
    }

    // ---- all pairs of CORNERS

    public int pair(int g) {
        if (!isGiving(g)) {
            return NO_SUCH;
        }
        if (!paths.isWhole(now.town, now.ways[g])) {
            return NONE;
        }
        paths.measureAll(now.town, now.ways[g], paths.all);
        int greatest = NONE;
        for (int from = 0; from < now.town.corners; from++) {
            for (int to = 0; to < now.town.corners; to++) {
                int place = from * MOST_CORNERS + to;
                int more = paths.all[place] - now.town.apart[place];
                if (from != to && more > greatest) {
                    greatest = more;
                    pairFrom = from;
                    pairTo = to;
                }
            }
        }
        return greatest;
    }

    public int paired(int what) {
        if (what == 0) {
            return pairFrom;
        }
        return what == 1 ? pairTo : NONE;
    }

    public int total(int g, int what) {
        if (!isGiving(g) || what < 0 || what > 1) {
            return NO_SUCH;
        }
        if (!paths.isWhole(now.town, now.ways[g])) {
            return NONE;
        }
        paths.measureAll(now.town, now.ways[g], paths.all);
        int together = 0;
        int greatest = 0;
        for (int from = 0; from < now.town.corners; from++) {
            for (int to = 0; to < now.town.corners; to++) {
                int minutes = paths.all[from * MOST_CORNERS + to];
                together += minutes;
                greatest = Math.max(greatest, minutes);
            }
        }
        return what == 0 ? together : greatest;
    }

    // ---- COIN

    public int coin(int g, int coin) {
        if (!isGiving(g) || !isCoin(coin)) {
            return NO_SUCH;
        }
        return isComplete(g) ? purse.spend(now.town, now.ways[g], coin) : UNFIT;
    }

    public int next(int g, int coin) {
        if (!isGiving(g) || !isCoin(coin)) {
            return NO_SUCH;
        }
        return isComplete(g) ? purse.nextCoin(now.town, now.ways[g], coin) : UNFIT;
    }

    public int paid(int g) {
        return isGiving(g) ? now.town.pricesOfBoth(now.ways[g]) : NO_SUCH;
    }

    // ---- the engine, NOON, the AFTERNOON

    public int fire(int g, int corner) {
        if (!isGiving(g) || !isCorner(corner)) {
            return NO_SUCH;
        }
        if (now.town.house == NONE) {
            return EMPTY;
        }
        return orNone(paths.engineTo(now.town, now.ways[g], corner));
    }

    public int lastFire(int g) {
        if (!isGiving(g)) {
            return NO_SUCH;
        }
        if (now.town.house == NONE) {
            return EMPTY;
        }
        int last = 0;
        int latest = NONE;
        for (int c = 0; c < now.town.corners; c++) {
            int minutes = paths.engineTo(now.town, now.ways[g], c);
            if (minutes > latest) {
                latest = minutes;
                last = c;
            }
        }
        return last;
    }

    public int arrive(int journey, int leave, int noon) {
        if (!isJourney(journey) || !isMinuteOfDay(leave) || !isMinuteOfDay(noon)) {
            return NO_SUCH;
        }
        int at = now.town.journeys.from[journey];
        int to = now.town.journeys.to[journey];
        int minute = leave;
        // Within one GIVING no CORNER is seen twice, and the GIVING changes once at most.
        for (int n = 0; n < 2 * MOST_CORNERS && at != to; n++) {
            int[] ways = now.ways[minute < noon ? 0 : 1];
            paths.goToward(now.town, ways, to, 0);
            int alley = paths.firstAlleyOn(now.town, ways, at);
            if (alley == NONE) {
                return NONE;
            }
            minute += now.town.minutes[alley];
            at = now.town.otherEnd(alley, at);
        }
        return minute;
    }

    public int reach(int g, int minutes) {
        if (!isGiving(g) || minutes < 0 || minutes > MOST_REACH) {
            return NO_SUCH;
        }
        if (now.town.house == NONE) {
            return EMPTY;
        }
        int reached = 0;
        for (int c = 0; c < now.town.corners; c++) {
            if (paths.engineTo(now.town, now.ways[g], c) <= minutes) {
                reached |= 1 << c;
            }
        }
        return reached;
    }

    public int afternoon(int k) {
        if (k < 0 || k > 2) {
            return NO_SUCH;
        }
        if (!isComplete(0) || paths.sumOf(now.town, now.ways[0], true, NO_LIMIT) == NONE) {
            return UNFIT;
        }
        int turned = turnings.bestAfternoon(now.town, now.ways[0], k);
        System.arraycopy(now.ways[0], 0, now.ways[1], 0, MOST_ALLEYS);
        turnings.turn(now.town, now.ways[1], turned);
        return Integer.bitCount(turned);
    }

    public int sumBack(int g) {
        return isGiving(g) ? paths.sumOf(now.town, now.ways[g], true, NO_LIMIT) : NO_SUCH;
    }

    public int walk(int g, int corner, int steps) {
        if (!isGiving(g) || !isCorner(corner) || steps < 0 || steps > MOST_STEPS) {
            return NO_SUCH;
        }
        int at = corner;
        int came = NONE;
        for (int n = 0; n < steps; n++) {
            int alley = paths.strollFrom(now.town, now.ways[g], at, came);
            if (alley == NONE) {
                return at;
            }
            at = now.town.otherEnd(alley, at);
            came = alley;
        }
        return at;
    }

    // ---- what carts and people see

    public int change() {
        return differing(now.ways[0], now.ways[1]);
    }

    public int signs(int g) {
        return isGiving(g) ? now.town.signsFor(now.ways[g]) : NO_SUCH;
    }

    public int gone(int g, int journey, int i) {
        if (!isGiving(g) || !isJourney(journey)) {
            return NO_SUCH;
        }
        return i < 0 ? NONE : paths.alleyOfJourney(now.town, now.ways[g], journey, i);
    }

    public int load(int g, int alley) {
        if (!isGiving(g) || !isAlley(alley)) {
            return NO_SUCH;
        }
        paths.carryAll(now.town, now.ways[g]);
        return paths.carried[alley];
    }

    public int busiest(int g) {
        if (!isGiving(g)) {
            return NO_SUCH;
        }
        paths.carryAll(now.town, now.ways[g]);
        int busy = NONE;
        for (int a = 0; a < now.town.alleys; a++) {
            if (busy == NONE || paths.carried[a] > paths.carried[busy]) {
                busy = a;
            }
        }
        return busy;
    }

    public int judge(int slot, int what) {
        if (!isSlot(slot) || what < 0 || what > 6) {
            return NO_SUCH;
        }
        if (!slots[slot].isThere()) {
            return EMPTY;
        }
        boolean fits = takeAsWays(slots[slot]);
        if (what == 0) {
            return fits ? 1 : 0;
        }
        return fits ? judgeWays(what) : NONE;
    }

    private boolean takeAsWays(Slot row) {
        if (row.size != now.town.alleys) {
            return false;
        }
        for (int a = 0; a < now.town.alleys; a++) {
            if (!now.town.mayStand(a, row.numbers[a])) {
                return false;
            }
            judged[a] = (int) row.numbers[a];
        }
        return true;
    }

    private int judgeWays(int what) {
        switch (what) {
            case 1:
                return paths.isWhole(now.town, judged) ? 1 : 0;
            case 2:
                return paths.sumOf(now.town, judged, false, NO_LIMIT);
            case 3:
                return paths.worstOf(now.town, judged, NO_LIMIT);
            case 4:
                return now.town.signsFor(judged);
            case 5:
                return differing(now.ways[0], judged);
            default:
                return now.town.pricesOfBoth(judged);
        }
    }

    public int spare(int g, int minutes) {
        if (!isGiving(g) || minutes < 1 || minutes > MOST_MINUTES) {
            return NO_SUCH;
        }
        if (paths.sumOf(now.town, now.ways[g], false, NO_LIMIT) == NONE) {
            return UNFIT;
        }
        paths.measureAll(now.town, now.ways[g], paths.all);
        int most = NONE;
        for (int a = 0; a < now.town.corners; a++) {
            for (int b = a + 1; b < now.town.corners; b++) {
                int saved = paths.sparedBy(now.town, a, b, minutes);
                if (saved > most) {
                    most = saved;
                    spareFrom = a;
                    spareTo = b;
                }
            }
        }
        return most;
    }

    public int spared(int what) {
        if (what == 0) {
            return spareFrom;
        }
        return what == 1 ? spareTo : NONE;
    }

    // ---- what the TOWN has

    public int alley(int alley, int what) {
        if (!isAlley(alley)) {
            return NOTHING;
        }
        switch (what) {
            case 0:
                return now.town.from[alley];
            case 1:
                return now.town.to[alley];
            case 2:
                return now.town.minutes[alley];
            case 3:
                return now.town.price[alley];
            case 4:
                return now.town.told >> alley & 1;
            case 5:
                return now.town.against >> alley & 1;
            default:
                return NOTHING;
        }
    }

    public int street(int street, int i) {
        Streets all = now.town.streets;
        if (street < 0 || street >= all.size || i < 0 || i >= all.sizes[street]) {
            return NONE;
        }
        return all.members[street * MOST_IN_STREET + i];
    }

    public int journey(int journey, int what) {
        if (!isJourney(journey)) {
            return NOTHING;
        }
        Journeys all = now.town.journeys;
        switch (what) {
            case 0:
                return all.from[journey];
            case 1:
                return all.to[journey];
            case 2:
                return all.carts[journey];
            case 3:
                return orNone(now.town.apart[all.from[journey] * MOST_CORNERS + all.to[journey]]);
            default:
                return NOTHING;
        }
    }

    public int count(int what) {
        switch (what) {
            case 0:
                return now.town.lines;
            case 1:
                return now.town.corners;
            case 2:
                return now.town.alleys;
            case 3:
                return now.town.journeys.size;
            case 4:
                return Integer.bitCount(now.town.told);
            case 5:
                return tapeSize;
            case 6:
                return now.openOnes(0);
            case 7:
                return now.openOnes(1);
            case 8:
                return now.town.house;
            case 9:
                return filledSlots();
            case 10:
                return now.town.streets.size;
            case 11:
                return now.town.gridAlleys();
            default:
                return NONE;
        }
    }

    private int filledSlots() {
        int filled = 0;
        for (int s = 0; s < SLOTS; s++) {
            if (slots[s].isThere()) {
                filled++;
            }
        }
        return filled;
    }

    // ---- IMAGES and SLOTS

    public int keep(int k) {
        if (k < 0 || k >= IMAGES) {
            return NO_SUCH;
        }
        images[k].takeFrom(now);
        images[k].isKept = true;
        return 0;
    }

    public int back(int k) {
        if (k < 0 || k >= IMAGES) {
            return NO_SUCH;
        }
        if (!images[k].isKept) {
            return EMPTY;
        }
        now.takeFrom(images[k]);
        return 0;
    }

    public int row(int slot, int width, int n) {
        if (!isSlot(slot) || width < 0 || width >= WIDTHS || n > MOST_IN_ROW) {
            return NO_SUCH;
        }
        if (n < 0) {
            return REFUSED;
        }
        slots[slot].makeRow(width, n);
        return 0;
    }

    public int write(int slot, int i, long v) {
        if (!isSlot(slot)) {
            return NO_SUCH;
        }
        Slot row = slots[slot];
        if (!row.isThere()) {
            return EMPTY;
        }
        if (i < 0 || i >= row.size) {
            return BEYOND;
        }
        row.numbers[i] = row.cutToWidth(v);
        return 0;
    }

    public int paste(int slot, int i, int to, int k, int n) {
        if (!isSlot(slot) || !isSlot(to)) {
            return NO_SUCH;
        }
        Slot source = slots[slot];
        Slot target = slots[to];
        if (!source.isThere() || !target.isThere()) {
            return EMPTY;
        }
        if (source.width != target.width) {
            return UNLIKE;
        }
        if (!source.hasPart(i, n) || !target.hasPart(k, n)) {
            return BEYOND;
        }
        // arraycopy takes a row's overlap with itself as it was.
        System.arraycopy(source.numbers, i, target.numbers, k, n);
        return 0;
    }

    // ---- what may be asked for

    private static boolean isGiving(int g) {
        return g >= 0 && g < GIVINGS;
    }

    private static boolean isSlot(int slot) {
        return slot >= 0 && slot < SLOTS;
    }

    private static boolean isCoin(int coin) {
        return coin >= 0 && coin <= MOST_COIN;
    }

    private static boolean isMinuteOfDay(int minute) {
        return minute >= 0 && minute < DAY;
    }

    private boolean isAlley(int alley) {
        return alley >= 0 && alley < now.town.alleys;
    }

    private boolean isCorner(int corner) {
        return corner >= 0 && corner < now.town.corners;
    }

    private boolean isJourney(int journey) {
        return journey >= 0 && journey < now.town.journeys.size;
    }

    /** What better() and its like ask for; in a WHOLE GIVING each JOURNEY can be gone. */
    private boolean isComplete(int g) {
        return now.openOnes(g) == 0 && paths.isWhole(now.town, now.ways[g]);
    }

    private int differing(int[] ways, int[] others) {
        int otherwise = 0;
        for (int a = 0; a < now.town.alleys; a++) {
            if (ways[a] != others[a]) {
                otherwise++;
            }
        }
        return otherwise;
    }

    private static int orNone(int minutes) {
        return minutes >= FAR ? NONE : minutes;
    }

    /** The JOURNEYS of a TOWN. */
    private static final class Journeys {
        int size = 0;
        final int[] from = new int[MOST_JOURNEYS];
        final int[] to = new int[MOST_JOURNEYS];
        final int[] carts = new int[MOST_JOURNEYS];

        void add(int start, int goal, int many) {
            from[size] = start;
            to[size] = goal;
            carts[size] = many;
            size++;
        }

        void takeFrom(Journeys other) {
            size = other.size;
            System.arraycopy(other.from, 0, from, 0, MOST_JOURNEYS);
            System.arraycopy(other.to, 0, to, 0, MOST_JOURNEYS);
            System.arraycopy(other.carts, 0, carts, 0, MOST_JOURNEYS);
        }
    }

    /** The STREETS of a TOWN. */
    private static final class Streets {
        int size = 0;
        /** ALLEYS of any STREET, as bits. */
        int taken = 0;
        final int[] sizes = new int[MOST_STREETS];
        final int[] members = new int[MOST_STREETS * MOST_IN_STREET];

        /** The street that is being read is the one behind the last. */
        void addMember(int alley) {
            members[size * MOST_IN_STREET + sizes[size]] = alley;
            sizes[size]++;
            taken |= 1 << alley;
        }

        boolean isAlike(int street, int[] ways) {
            int first = ways[members[street * MOST_IN_STREET]];
            for (int i = 1; i < sizes[street]; i++) {
                if (ways[members[street * MOST_IN_STREET + i]] != first) {
                    return false;
                }
            }
            return true;
        }

        void drop() {
            size = 0;
            taken = 0;
            Arrays.fill(sizes, 0);
        }

        void takeFrom(Streets other) {
            size = other.size;
            taken = other.taken;
            System.arraycopy(other.sizes, 0, sizes, 0, MOST_STREETS);
            System.arraycopy(other.members, 0, members, 0, MOST_STREETS * MOST_IN_STREET);
        }
    }

    /** What a text tells, and what follows from it whatever the GIVINGS are. */
    private static final class Town {
        int lines = 0;
        int corners = 2;
        int alleys = 0;
        int house = NONE;
        int gridWide = 0;
        int gridHigh = 0;
        final int[] from = new int[MOST_ALLEYS];
        final int[] to = new int[MOST_ALLEYS];
        final int[] minutes = new int[MOST_ALLEYS];
        final int[] price = new int[MOST_ALLEYS];
        /** ALLEYS that are told, and those the engine may go against, as bits. */
        int told = 0;
        int against = 0;
        final Journeys journeys = new Journeys();
        final Streets streets = new Streets();
        /** ALLEYS at a CORNER by numbers: those of CORNER c from firstEnd[c] on. */
        final int[] firstEnd = new int[MOST_CORNERS + 1];
        final int[] ends = new int[2 * MOST_ALLEYS];
        /** Minutes from a CORNER to another if all ALLEYS were BOTH. */
        final int[] apart = new int[MOST_CORNERS * MOST_CORNERS];
        /** ALLEYS without which, all others taken both ways, a CORNER is cut off, as bits. */
        int bridges = 0;

        void drop() {
            lines = 0;
            corners = 2;
            alleys = 0;
            house = NONE;
            gridWide = 0;
            gridHigh = 0;
            told = 0;
            against = 0;
            journeys.size = 0;
            streets.drop();
        }

        void takeFrom(Town other) {
            lines = other.lines;
            corners = other.corners;
            alleys = other.alleys;
            house = other.house;
            gridWide = other.gridWide;
            gridHigh = other.gridHigh;
            System.arraycopy(other.from, 0, from, 0, MOST_ALLEYS);
            System.arraycopy(other.to, 0, to, 0, MOST_ALLEYS);
            System.arraycopy(other.minutes, 0, minutes, 0, MOST_ALLEYS);
            System.arraycopy(other.price, 0, price, 0, MOST_ALLEYS);
            told = other.told;
            against = other.against;
            journeys.takeFrom(other.journeys);
            streets.takeFrom(other.streets);
            System.arraycopy(other.firstEnd, 0, firstEnd, 0, MOST_CORNERS + 1);
            System.arraycopy(other.ends, 0, ends, 0, 2 * MOST_ALLEYS);
            System.arraycopy(other.apart, 0, apart, 0, MOST_CORNERS * MOST_CORNERS);
            bridges = other.bridges;
        }

        void addAlley(int start, int goal, int time, int cost) {
            from[alleys] = start;
            to[alleys] = goal;
            minutes[alleys] = time;
            price[alleys] = cost;
            alleys++;
        }

        void addGrid(int wide, int high, int time) {
            corners = wide * high;
            gridWide = wide;
            gridHigh = high;
            for (int y = 0; y < high; y++) {
                for (int x = 0; x + 1 < wide; x++) {
                    addAlley(wide * y + x, wide * y + x + 1, time, NONE);
                }
            }
            for (int x = 0; x < wide; x++) {
                for (int y = 0; y + 1 < high; y++) {
                    addAlley(wide * y + x, wide * (y + 1) + x, time, NONE);
                }
            }
        }

        int gridAlleys() {
            return gridWide == 0 ? 0 : (gridWide - 1) * gridHigh + gridWide * (gridHigh - 1);
        }

        int goByTurns(int[] ways) {
            int alley = 0;
            for (int y = 0; y < gridHigh; y++) {
                for (int x = 0; x + 1 < gridWide; x++) {
                    ways[alley] = y % 2 == 0 ? FORWARD : BACKWARD;
                    alley++;
                }
            }
            for (int x = 0; x < gridWide; x++) {
                for (int y = 0; y + 1 < gridHigh; y++) {
                    ways[alley] = x % 2 == 0 ? FORWARD : BACKWARD;
                    alley++;
                }
            }
            return alley;
        }

        int allCorners() {
            return (1 << corners) - 1;
        }

        boolean isTold(int alley) {
            return (told >> alley & 1) != 0;
        }

        boolean isWayFor(int alley, long way) {
            return way >= OPEN && way <= BOTH && (way != BOTH || price[alley] != NONE);
        }

        /** A told ALLEY is never given, not even the way that it has. */
        boolean mayGive(int alley, long way) {
            return !isTold(alley) && isWayFor(alley, way);
        }

        /** In a row of all ways a told ALLEY stands with the way that it has. */
        boolean mayStand(int alley, long way) {
            return isTold(alley) ? way == FORWARD : isWayFor(alley, way);
        }

        boolean mayEnter(int[] ways, int alley, int corner) {
            return ways[alley] != (from[alley] == corner ? BACKWARD : FORWARD);
        }

        int otherEnd(int alley, int corner) {
            return from[alley] == corner ? to[alley] : from[alley];
        }

        int openAlleys(int[] ways) {
            int bits = 0;
            for (int a = 0; a < alleys; a++) {
                if (ways[a] == OPEN) {
                    bits |= 1 << a;
                }
            }
            return bits;
        }

        int pricesOfBoth(int[] ways) {
            int together = 0;
            for (int a = 0; a < alleys; a++) {
                if (ways[a] == BOTH) {
                    together += price[a];
                }
            }
            return together;
        }

        int signsFor(int[] ways) {
            int signs = 0;
            for (int c = 0; c < corners; c++) {
                int mouths = firstEnd[c + 1] - firstEnd[c];
                int shut = 0;
                for (int e = firstEnd[c]; e < firstEnd[c + 1]; e++) {
                    if (!mayEnter(ways, ends[e], c)) {
                        shut++;
                    }
                }
                // One sign that tells the only way on says as much as one at each shut mouth.
                signs += shut > 0 && mouths - shut == 1 ? 1 : shut;
            }
            return signs;
        }

        void listEnds() {
            int listed = 0;
            for (int c = 0; c < corners; c++) {
                firstEnd[c] = listed;
                for (int a = 0; a < alleys; a++) {
                    if (from[a] == c || to[a] == c) {
                        ends[listed] = a;
                        listed++;
                    }
                }
            }
            firstEnd[corners] = listed;
        }
    }

    /** A TOWN with both its GIVINGS: the one of now, or an IMAGE. */
    private static final class State {
        Town town = new Town();
        final int[][] ways = new int[GIVINGS][MOST_ALLEYS];
        boolean isKept = false;

        void takeFrom(State other) {
            town.takeFrom(other.town);
            for (int g = 0; g < GIVINGS; g++) {
                System.arraycopy(other.ways[g], 0, ways[g], 0, MOST_ALLEYS);
            }
        }

        int openOnes(int g) {
            return Integer.bitCount(town.openAlleys(ways[g]));
        }

        /** How many that may be OPEN were not. */
        int openAll(int g) {
            int closed = 0;
            for (int a = 0; a < town.alleys; a++) {
                if (town.isTold(a)) {
                    ways[g][a] = FORWARD;
                } else {
                    closed += ways[g][a] == OPEN ? 0 : 1;
                    ways[g][a] = OPEN;
                }
            }
            return closed;
        }
    }

    /** A row of numbers, or nothing. */
    private static final class Slot {
        int width = NONE;
        int size = 0;
        final long[] numbers = new long[MOST_IN_ROW];

        boolean isThere() {
            return width != NONE;
        }

        void makeRow(int newWidth, int newSize) {
            width = newWidth;
            size = newSize;
            Arrays.fill(numbers, 0L);
        }

        long cutToWidth(long v) {
            switch (width) {
                case 0:
                    return (byte) v;
                case 1:
                    return (short) v;
                case 2:
                    return (int) v;
                default:
                    return v;
            }
        }

        /** Written so that no sum of great numbers wraps around. */
        boolean hasPart(int start, int length) {
            return start >= 0 && length >= 0 && length <= size && start <= size - length;
        }
    }

    /** The TAPE as TOKENS, one at a time. */
    private static final class Tokens {
        static final int TEXT_END = 0;
        static final int WORD = 1;
        static final int NUMBER = 2;
        static final int SIGN = 3;
        static final int STRANGE = 4;
        /** Above every bound; a longer number stays at it. */
        static final int GREAT = 100000;

        private byte[] bytes = new byte[0];
        private int size = 0;
        private int stop = 0;
        int kind = TEXT_END;
        int start = 0;
        int value = 0;

        void open(byte[] tape, int tapeSize) {
            bytes = tape;
            size = Math.min(tapeSize, tape.length);
            stop = 0;
            advance();
        }

        void advance() {
            start = stop;
            while (start < size && isBlank(bytes[start])) {
                start++;
            }
            stop = start;
            value = 0;
            if (start >= size) {
                kind = TEXT_END;
            } else if (isLetter(bytes[start])) {
                kind = WORD;
                while (stop < size && isLetter(bytes[stop])) {
                    stop++;
                }
            } else if (isDigit(bytes[start])) {
                kind = NUMBER;
                while (stop < size && isDigit(bytes[stop])) {
                    value = Math.min(value * 10 + bytes[stop] - '0', GREAT);
                    stop++;
                }
            } else {
                kind = bytes[start] == ';' ? SIGN : STRANGE;
                stop = start + 1;
            }
        }

        boolean isWord(String word) {
            if (kind != WORD || stop - start != word.length()) {
                return false;
            }
            for (int i = 0; i < word.length(); i++) {
                if (bytes[start + i] != word.charAt(i)) {
                    return false;
                }
            }
            return true;
        }

        private static boolean isBlank(byte b) {
            return b == 32 || b == 10;
        }

        private static boolean isLetter(byte b) {
            return b >= 'a' && b <= 'z';
        }

        private static boolean isDigit(byte b) {
            return b >= '0' && b <= '9';
        }
    }

    /** Reads a text into a TOWN. Behind the first FAULT the take.. methods do nothing more. */
    private static final class TownReader {
        private static final int MISPLACED = 1;
        private static final int OUT_OF_BOUNDS = 2;
        private static final int TOO_MANY = 3;

        private final Tokens tokens = new Tokens();
        /** Another one than the TOWN of now, so that a FAULT leaves that as it is. */
        Town draft = new Town();
        int fault = 0;
        int place = NONE;

        boolean read(byte[] tape, int size) {
            draft.drop();
            fault = 0;
            place = NONE;
            tokens.open(tape, size);
            for (int n = 0; n < size && fault == 0 && tokens.kind != Tokens.TEXT_END; n++) {
                readLine();
                draft.lines++;
            }
            return fault == 0;
        }

        private void refuse(int kind) {
            fault = kind;
            place = tokens.start;
        }

        private void readLine() {
            if (tokens.isWord("alley")) {
                readAlley();
            } else if (tokens.isWord("journey")) {
                readJourney();
            } else if (tokens.isWord("street")) {
                readStreet();
            } else if (tokens.isWord("house")) {
                readHouse();
            } else if (tokens.isWord("corners") && draft.lines == 0) {
                readCorners();
            } else if (tokens.isWord("grid") && draft.lines == 0) {
                readGrid();
            } else {
                refuse(MISPLACED);
            }
        }

        private void readCorners() {
            tokens.advance();
            int many = takeNumber(2, MOST_CORNERS, NONE);
            takeSign();
            if (fault == 0) {
                draft.corners = many;
            }
        }

        private void readGrid() {
            tokens.advance();
            int wide = takeNumber(2, 4, NONE);
            takeWord("by");
            int high = takeNumber(2, 4, NONE);
            takeWord("min");
            int time = takeNumber(1, MOST_MINUTES, NONE);
            takeSign();
            if (fault == 0) {
                draft.addGrid(wide, high, time);
            }
        }

        private void readAlley() {
            if (draft.alleys >= MOST_ALLEYS) {
                refuse(TOO_MANY);
                return;
            }
            tokens.advance();
            int from = takeNumber(0, draft.corners - 1, NONE);
            int to = takeNumber(0, draft.corners - 1, from);
            takeWord("min");
            int time = takeNumber(1, MOST_MINUTES, NONE);
            int price = hasWord("price") ? takeNumber(0, 999, NONE) : NONE;
            boolean isTold = hasWord("told");
            boolean isAgainst = hasWord("against");
            takeSign();
            if (fault == 0) {
                int bit = 1 << draft.alleys;
                draft.told |= isTold ? bit : 0;
                draft.against |= isAgainst ? bit : 0;
                draft.addAlley(from, to, time, price);
            }
        }

        private void readJourney() {
            if (draft.journeys.size >= MOST_JOURNEYS) {
                refuse(TOO_MANY);
                return;
            }
            tokens.advance();
            int from = takeNumber(0, draft.corners - 1, NONE);
            int to = takeNumber(0, draft.corners - 1, from);
            takeWord("carts");
            int carts = takeNumber(1, 99, NONE);
            takeSign();
            if (fault == 0) {
                draft.journeys.add(from, to, carts);
            }
        }

        private void readHouse() {
            if (draft.house != NONE) {
                refuse(TOO_MANY);
                return;
            }
            tokens.advance();
            int corner = takeNumber(0, draft.corners - 1, NONE);
            takeSign();
            if (fault == 0) {
                draft.house = corner;
            }
        }

        private void readStreet() {
            if (draft.streets.size >= MOST_STREETS) {
                refuse(TOO_MANY);
                return;
            }
            tokens.advance();
            takeMember();
            takeMember();
            for (int n = 2; n <= MOST_IN_STREET && tokens.kind == Tokens.NUMBER; n++) {
                takeMember();
            }
            takeSign();
            if (fault == 0) {
                draft.streets.size++;
            }
        }

        /** Of one place the least FAULT counts, so a seventh ALLEY is looked at as any other first. */
        private void takeMember() {
            if (fault != 0) {
                return;
            }
            if (tokens.kind != Tokens.NUMBER) {
                refuse(MISPLACED);
            } else if (tokens.value >= draft.alleys || (draft.streets.taken >> tokens.value & 1) != 0) {
                refuse(OUT_OF_BOUNDS);
            } else if (draft.streets.sizes[draft.streets.size] >= MOST_IN_STREET) {
                refuse(TOO_MANY);
            } else {
                draft.streets.addMember(tokens.value);
                tokens.advance();
            }
        }

        /** A number within its bounds that is not one that is barred (NONE bars none). */
        private int takeNumber(int low, int high, int barred) {
            if (fault != 0) {
                return low;
            }
            if (tokens.kind != Tokens.NUMBER) {
                refuse(MISPLACED);
                return low;
            }
            int value = tokens.value;
            if (value < low || value > high || value == barred) {
                refuse(OUT_OF_BOUNDS);
                return low;
            }
            tokens.advance();
            return value;
        }

        private void takeWord(String word) {
            if (!hasWord(word) && fault == 0) {
                refuse(MISPLACED);
            }
        }

        private boolean hasWord(String word) {
            if (fault != 0 || !tokens.isWord(word)) {
                return false;
            }
            tokens.advance();
            return true;
        }

        private void takeSign() {
            if (fault != 0) {
                return;
            }
            if (tokens.kind == Tokens.SIGN) {
                tokens.advance();
            } else {
                refuse(MISPLACED);
            }
        }
    }

    /** Ways through a TOWN by the ways of its ALLEYS. */
    private static final class Paths {
        /** Minutes from each CORNER to the latest goal, and between all of them. */
        private final int[] toGo = new int[MOST_CORNERS];
        final int[] all = new int[MOST_CORNERS * MOST_CORNERS];
        /** Carts of all JOURNEYS through each ALLEY. */
        final int[] carried = new int[MOST_ALLEYS];
        private final int[] leaving = new int[MOST_CORNERS];
        private final int[] coming = new int[MOST_CORNERS];
        /** All OPEN, which goes as all BOTH would; never changed. */
        private final int[] allBoth = new int[MOST_ALLEYS];

        void settle(Town town) {
            town.listEnds();
            measureAll(town, allBoth, town.apart);
            town.bridges = 0;
            for (int a = 0; a < town.alleys; a++) {
                joinCorners(town, allBoth, a);
                if (spread(town, leaving, 0) != town.allCorners()) {
                    town.bridges |= 1 << a;
                }
            }
        }

        /** Which CORNERS lie one ALLEY away, as bits, one ALLEY left out. */
        private void joinCorners(Town town, int[] ways, int without) {
            Arrays.fill(leaving, 0);
            Arrays.fill(coming, 0);
            for (int a = 0; a < town.alleys; a++) {
                if (a != without) {
                    int from = town.from[a];
                    int to = town.to[a];
                    if (ways[a] != BACKWARD) {
                        leaving[from] |= 1 << to;
                        coming[to] |= 1 << from;
                    }
                    if (ways[a] != FORWARD) {
                        leaving[to] |= 1 << from;
                        coming[from] |= 1 << to;
                    }
                }
            }
        }

        private int spread(Town town, int[] beside, int start) {
            int seen = 1 << start;
            for (int n = 0; n < town.corners; n++) {
                int before = seen;
                for (int c = 0; c < town.corners; c++) {
                    if ((seen >> c & 1) != 0) {
                        seen |= beside[c];
                    }
                }
                if (seen == before) {
                    return seen;
                }
            }
            return seen;
        }

        int reachedFrom(Town town, int[] ways, int corner) {
            joinCorners(town, ways, NONE);
            return spread(town, leaving, corner);
        }

        boolean isWhole(Town town, int[] ways) {
            joinCorners(town, ways, NONE);
            int all = town.allCorners();
            return spread(town, leaving, 0) == all && spread(town, coming, 0) == all;
        }

        /** Dijkstra's search from the goal backward; ALLEYS of the bits may be gone against. */
        void goToward(Town town, int[] ways, int goal, int against) {
            Arrays.fill(toGo, FAR);
            toGo[goal] = 0;
            int waiting = 1 << goal;
            for (int n = 0; n < town.corners && waiting != 0; n++) {
                int corner = nearestOf(town, waiting);
                waiting &= ~(1 << corner);
                for (int e = town.firstEnd[corner]; e < town.firstEnd[corner + 1]; e++) {
                    int alley = town.ends[e];
                    int start = town.otherEnd(alley, corner);
                    int time = town.minutes[alley];
                    if (!town.mayEnter(ways, alley, start)) {
                        time = (against >> alley & 1) != 0 ? 2 * time : FAR;
                    }
                    if (toGo[corner] + time < toGo[start]) {
                        toGo[start] = toGo[corner] + time;
                        waiting |= 1 << start;
                    }
                }
            }
        }

        private int nearestOf(Town town, int waiting) {
            int nearest = 0;
            int least = FAR;
            for (int c = 0; c < town.corners; c++) {
                if ((waiting >> c & 1) != 0 && toGo[c] < least) {
                    least = toGo[c];
                    nearest = c;
                }
            }
            return nearest;
        }

        int between(Town town, int[] ways, int from, int to) {
            goToward(town, ways, to, 0);
            return toGo[from];
        }

        int engineTo(Town town, int[] ways, int corner) {
            goToward(town, ways, corner, town.against);
            return toGo[town.house];
        }

        void measureAll(Town town, int[] ways, int[] into) {
            for (int to = 0; to < town.corners; to++) {
                goToward(town, ways, to, 0);
                for (int from = 0; from < town.corners; from++) {
                    into[from * MOST_CORNERS + to] = toGo[from];
                }
            }
        }

        /** The first ALLEY of the shortest way to the latest goal; NONE at it, or without a way. */
        int firstAlleyOn(Town town, int[] ways, int corner) {
            if (toGo[corner] >= FAR) {
                return NONE;
            }
            for (int e = town.firstEnd[corner]; e < town.firstEnd[corner + 1]; e++) {
                int alley = town.ends[e];
                int onward = town.minutes[alley] + toGo[town.otherEnd(alley, corner)];
                if (town.mayEnter(ways, alley, corner) && onward == toGo[corner]) {
                    return alley;
                }
            }
            return NONE;
        }

        /** ALLEYS of the shortest way from a CORNER to the latest goal, as bits. */
        private int alleysOnWay(Town town, int[] ways, int corner) {
            int bits = 0;
            int at = corner;
            for (int n = 0; n < town.corners; n++) {
                int alley = firstAlleyOn(town, ways, at);
                if (alley == NONE) {
                    return bits;
                }
                bits |= 1 << alley;
                at = town.otherEnd(alley, at);
            }
            return bits;
        }

        int alleyOfJourney(Town town, int[] ways, int journey, int i) {
            goToward(town, ways, town.journeys.to[journey], 0);
            int at = town.journeys.from[journey];
            for (int n = 0; n < town.corners; n++) {
                int alley = firstAlleyOn(town, ways, at);
                if (alley == NONE || n == i) {
                    return alley;
                }
                at = town.otherEnd(alley, at);
            }
            return NONE;
        }

        void carryAll(Town town, int[] ways) {
            Arrays.fill(carried, 0);
            for (int j = 0; j < town.journeys.size; j++) {
                goToward(town, ways, town.journeys.to[j], 0);
                int bits = alleysOnWay(town, ways, town.journeys.from[j]);
                for (int a = 0; a < town.alleys; a++) {
                    if ((bits >> a & 1) != 0) {
                        carried[a] += town.journeys.carts[j];
                    }
                }
            }
        }

        private int ringEnd(Town town, int[] ways, int alley) {
            return ways[alley] == BACKWARD ? town.from[alley] : town.to[alley];
        }

        int ringMinutes(Town town, int[] ways, int alley) {
            int end = ringEnd(town, ways, alley);
            return town.minutes[alley] + between(town, ways, end, town.otherEnd(alley, end));
        }

        /** The ALLEYS of a RING, as bits; 0 without a way back. */
        int ringAlleys(Town town, int[] ways, int alley) {
            int end = ringEnd(town, ways, alley);
            goToward(town, ways, town.otherEnd(alley, end), 0);
            return toGo[end] >= FAR ? 0 : alleysOnWay(town, ways, end) | 1 << alley;
        }

        /** Minutes more than if all were BOTH; NONE if one can't come there. */
        private int detour(Town town, int from, int to) {
            return toGo[from] >= FAR ? NONE : toGo[from] - town.apart[from * MOST_CORNERS + to];
        }

        int roundOf(Town town, int[] ways, int journey) {
            int to = town.journeys.to[journey];
            goToward(town, ways, to, 0);
            return detour(town, town.journeys.from[journey], to);
        }

        /**
         * The SUM, of all JOURNEYS gone back if isBack; NONE if one can't be gone. No part of it
         * is below 0, so what comes to the limit is not counted to its end.
         */
        int sumOf(Town town, int[] ways, boolean isBack, int limit) {
            int sum = 0;
            for (int j = 0; j < town.journeys.size && sum < limit; j++) {
                int from = isBack ? town.journeys.to[j] : town.journeys.from[j];
                int to = isBack ? town.journeys.from[j] : town.journeys.to[j];
                goToward(town, ways, to, 0);
                int more = detour(town, from, to);
                if (more == NONE) {
                    return NONE;
                }
                sum += town.journeys.carts[j] * more;
            }
            return sum;
        }

        int worstOf(Town town, int[] ways, int limit) {
            int greatest = 0;
            for (int j = 0; j < town.journeys.size && greatest < limit; j++) {
                int more = roundOf(town, ways, j);
                if (more == NONE) {
                    return NONE;
                }
                greatest = Math.max(greatest, more);
            }
            return greatest;
        }

        /** What a new ALLEY, BOTH, spares of the SUM, by the minutes that were measured last. */
        int sparedBy(Town town, int a, int b, int time) {
            int saved = 0;
            for (int j = 0; j < town.journeys.size; j++) {
                int from = town.journeys.from[j] * MOST_CORNERS;
                int to = town.journeys.to[j];
                int there = all[from + a] + time + all[b * MOST_CORNERS + to];
                int other = all[from + b] + time + all[a * MOST_CORNERS + to];
                int less = all[from + to] - Math.min(there, other);
                saved += town.journeys.carts[j] * Math.max(less, 0);
            }
            return saved;
        }

        /** The ALLEY that one who walks takes; NONE if all MOUTHS are shut. */
        int strollFrom(Town town, int[] ways, int corner, int came) {
            int last = NONE;
            for (int e = town.firstEnd[corner]; e < town.firstEnd[corner + 1]; e++) {
                int alley = town.ends[e];
                if (town.mayEnter(ways, alley, corner)) {
                    if (alley != came) {
                        return alley;
                    }
                    last = alley;
                }
            }
            return last;
        }
    }

    /** Ways for the OPEN ALLEYS. */
    private static final class Endings {
        private final Paths paths;
        private final int[] openOnes = new int[MOST_OPEN];

        Endings(Paths paths) {
            this.paths = paths;
        }

        /**
         * By Boesch and Tindell: a WHOLE net can be ended if no ALLEY to be given is a bridge,
         * which spares the trial of all ways.
         */
        boolean canEnd(Town town, int[] ways) {
            return (town.bridges & town.openAlleys(ways)) == 0 && paths.isWhole(town, ways);
        }

        /** The BAR of a WHOLE GIVING. */
        int barring(Town town, int[] ways) {
            int bars = town.bridges & town.openAlleys(ways);
            for (int a = 0; a < town.alleys; a++) {
                if ((bars >> a & 1) != 0) {
                    return a;
                }
            }
            return NONE;
        }

        int endAsShown(Town town, int[] ways) {
            if (!canEnd(town, ways)) {
                return NONE;
            }
            int given = 0;
            for (int a = 0; a < town.alleys; a++) {
                if (ways[a] == OPEN) {
                    ways[a] = canEndWith(town, ways, a, FORWARD) ? FORWARD : BACKWARD;
                    given++;
                }
            }
            return given;
        }

        private boolean canEndWith(Town town, int[] ways, int alley, int way) {
            int was = ways[alley];
            ways[alley] = way;
            boolean can = canEnd(town, ways);
            ways[alley] = was;
            return can;
        }

        /** The way of a FORCED ALLEY; 0 if it is none. */
        int onlyWay(Town town, int[] ways, int alley) {
            if (ways[alley] != OPEN) {
                return 0;
            }
            boolean forward = canEndWith(town, ways, alley, FORWARD);
            boolean backward = canEndWith(town, ways, alley, BACKWARD);
            if (forward == backward) {
                return 0;
            }
            return forward ? FORWARD : BACKWARD;
        }

        int forcedAlleys(Town town, int[] ways) {
            if (!canEnd(town, ways)) {
                return NONE;
            }
            int bits = 0;
            for (int a = 0; a < town.alleys; a++) {
                if (onlyWay(town, ways, a) != 0) {
                    bits |= 1 << a;
                }
            }
            return bits;
        }

        /** No more than MOST_OPEN may be OPEN. */
        int endAsBest(Town town, int[] ways, boolean byWorst) {
            int many = listOpen(town, ways);
            int least = NO_LIMIT;
            int chosen = NONE;
            // Counted up, the first ALLEY in the highest bit, trials come ALLEY by ALLEY.
            for (int trial = 0; trial < 1 << many && least > 0; trial++) {
                giveTrial(ways, many, trial);
                int number = paths.isWhole(town, ways) ? rate(town, ways, byWorst, least) : NO_LIMIT;
                if (number < least) {
                    least = number;
                    chosen = trial;
                }
            }
            if (chosen == NONE) {
                for (int i = 0; i < many; i++) {
                    ways[openOnes[i]] = OPEN;
                }
                return NONE;
            }
            giveTrial(ways, many, chosen);
            return least;
        }

        private int listOpen(Town town, int[] ways) {
            int many = 0;
            for (int a = 0; a < town.alleys && many < MOST_OPEN; a++) {
                if (ways[a] == OPEN) {
                    openOnes[many] = a;
                    many++;
                }
            }
            return many;
        }

        private void giveTrial(int[] ways, int many, int trial) {
            for (int i = 0; i < many; i++) {
                ways[openOnes[i]] = (trial >> (many - 1 - i) & 1) == 0 ? FORWARD : BACKWARD;
            }
        }

        private int rate(Town town, int[] ways, boolean byWorst, int limit) {
            return byWorst ? paths.worstOf(town, ways, limit) : paths.sumOf(town, ways, false, limit);
        }
    }

    /** TURNINGS of ALLEYS that are not told and go one way. */
    private static final class Turnings {
        private final Paths paths;

        Turnings(Paths paths) {
            this.paths = paths;
        }

        private static boolean isOneWay(int way) {
            return way == FORWARD || way == BACKWARD;
        }

        private int turnable(Town town, int[] ways) {
            int bits = 0;
            for (int a = 0; a < town.alleys; a++) {
                if (isOneWay(ways[a]) && !town.isTold(a)) {
                    bits |= 1 << a;
                }
            }
            return bits;
        }

        void turn(Town town, int[] ways, int bits) {
            for (int a = 0; a < town.alleys; a++) {
                if ((bits >> a & 1) != 0) {
                    ways[a] = FORWARD + BACKWARD - ways[a];
                }
            }
        }

        /** The ALLEYS of the TURNING that is due, as bits; 0 if none betters. */
        int firstTurning(Town town, int[] ways) {
            int sum = paths.sumOf(town, ways, false, NO_LIMIT);
            int able = turnable(town, ways);
            int found = firstOne(town, ways, able, sum);
            if (found == 0) {
                found = firstTwo(town, ways, able, sum);
            }
            return found == 0 ? firstRing(town, ways, able, sum) : found;
        }

        private int firstOne(Town town, int[] ways, int able, int sum) {
            for (int a = 0; a < town.alleys; a++) {
                int bits = 1 << a;
                if ((able & bits) != 0 && isBetter(town, ways, bits, sum)) {
                    return bits;
                }
            }
            return 0;
        }

        private int firstTwo(Town town, int[] ways, int able, int sum) {
            for (int i = 0; i < town.alleys; i++) {
                for (int j = i + 1; j < town.alleys; j++) {
                    int bits = 1 << i | 1 << j;
                    if ((able & bits) == bits && isBetter(town, ways, bits, sum)) {
                        return bits;
                    }
                }
            }
            return 0;
        }

        private int firstRing(Town town, int[] ways, int able, int sum) {
            for (int a = 0; a < town.alleys; a++) {
                if (isOneWay(ways[a])) {
                    int bits = paths.ringAlleys(town, ways, a);
                    if (bits != 0 && (able & bits) == bits && isBetter(town, ways, bits, sum)) {
                        return bits;
                    }
                }
            }
            return 0;
        }

        private boolean isBetter(Town town, int[] ways, int bits, int sum) {
            turn(town, ways, bits);
            boolean better = paths.isWhole(town, ways) && paths.sumOf(town, ways, false, sum) < sum;
            turn(town, ways, bits);
            return better;
        }

        /** The ALLEYS that an AFTERNOON of k turns, as bits. */
        int bestAfternoon(Town town, int[] ways, int k) {
            int able = turnable(town, ways);
            int least = paths.sumOf(town, ways, true, NO_LIMIT);
            int chosen = 0;
            for (int i = 0; i < town.alleys && k >= 1; i++) {
                int bits = 1 << i;
                int number = (able & bits) == 0 ? least : sumBackTurned(town, ways, bits, least);
                if (number < least) {
                    least = number;
                    chosen = bits;
                }
            }
            for (int i = 0; i < town.alleys && k >= 2; i++) {
                for (int j = i + 1; j < town.alleys; j++) {
                    int bits = 1 << i | 1 << j;
                    int number = (able & bits) != bits ? least : sumBackTurned(town, ways, bits, least);
                    if (number < least) {
                        least = number;
                        chosen = bits;
                    }
                }
            }
            return chosen;
        }

        private int sumBackTurned(Town town, int[] ways, int bits, int limit) {
            turn(town, ways, bits);
            int number = paths.isWhole(town, ways) ? paths.sumOf(town, ways, true, limit) : limit;
            turn(town, ways, bits);
            return number;
        }
    }

    /** COIN for ALLEYS that become BOTH. */
    private static final class Purse {
        private final Paths paths;
        private final int[] payable = new int[MOST_PAYABLE];
        private final int[] ownWay = new int[MOST_PAYABLE];
        /** Price and SUM of each choice of payable ALLEYS, the choice as bits. */
        private final int[] prices = new int[1 << MOST_PAYABLE];
        private final int[] sums = new int[1 << MOST_PAYABLE];

        Purse(Paths paths) {
            this.paths = paths;
        }

        int spend(Town town, int[] ways, int coin) {
            int many = listPayable(town, ways);
            weighChoices(town, ways, many, coin);
            int chosen = 0;
            for (int choice = 1; choice < 1 << many; choice++) {
                if (prices[choice] <= coin && isAhead(choice, chosen)) {
                    chosen = choice;
                }
            }
            makeBoth(ways, many, chosen);
            return sums[chosen];
        }

        int nextCoin(Town town, int[] ways, int coin) {
            int many = listPayable(town, ways);
            weighChoices(town, ways, many, NO_LIMIT);
            int least = NO_LIMIT;
            for (int choice = 0; choice < 1 << many; choice++) {
                if (prices[choice] <= coin) {
                    least = Math.min(least, sums[choice]);
                }
            }
            int nearest = NO_LIMIT;
            for (int choice = 0; choice < 1 << many; choice++) {
                if (prices[choice] > coin && sums[choice] < least) {
                    nearest = Math.min(nearest, prices[choice]);
                }
            }
            return nearest > MOST_COIN ? NONE : nearest;
        }

        private int listPayable(Town town, int[] ways) {
            int many = 0;
            for (int a = 0; a < town.alleys && many < MOST_PAYABLE; a++) {
                boolean isOneWay = ways[a] == FORWARD || ways[a] == BACKWARD;
                if (isOneWay && town.price[a] != NONE && !town.isTold(a)) {
                    payable[many] = a;
                    ownWay[many] = ways[a];
                    many++;
                }
            }
            return many;
        }

        /** Leaves the ways as they were; choices beyond the coin get no sum. */
        private void weighChoices(Town town, int[] ways, int many, int coin) {
            for (int choice = 0; choice < 1 << many; choice++) {
                prices[choice] = priceOf(town, many, choice);
                if (prices[choice] <= coin) {
                    makeBoth(ways, many, choice);
                    sums[choice] = paths.sumOf(town, ways, false, NO_LIMIT);
                }
            }
            makeBoth(ways, many, 0);
        }

        private int priceOf(Town town, int many, int choice) {
            int price = 0;
            for (int i = 0; i < many; i++) {
                price += (choice >> i & 1) * town.price[payable[i]];
            }
            return price;
        }

        private void makeBoth(int[] ways, int many, int choice) {
            for (int i = 0; i < many; i++) {
                ways[payable[i]] = (choice >> i & 1) == 0 ? ownWay[i] : BOTH;
            }
        }

        private boolean isAhead(int choice, int other) {
            if (sums[choice] != sums[other]) {
                return sums[choice] < sums[other];
            }
            if (prices[choice] != prices[other]) {
                return prices[choice] < prices[other];
            }
            return isRowAhead(choice, other);
        }

        /**
         * At the first number that only one of both rows has, that one is ahead,
         * unless the other row ends there.
         */
        private static boolean isRowAhead(int choice, int other) {
            int differing = choice ^ other;
            int first = differing & -differing;
            boolean isOwn = (choice & first) != 0;
            int lacking = isOwn ? other : choice;
            boolean goesOn = (lacking & -first) != 0;
            return goesOn == isOwn;
        }
    }
}
