/** The bounds of promises 6 to 56: the last arguments that are allowed and the first that are not, and which refusal goes first. */
public final class CallBoundsTest {
    private static final int NOTHING = -2000000000;
    private static final int LOW = Integer.MIN_VALUE;
    private static final int HIGH = Integer.MAX_VALUE;
    /** A ring of four CORNERS with a short cut from 0 to 2 that has a price. */
    private static final String RING = "corners 4; alley 0 1 min 5; alley 1 2 min 5; alley 2 3 min 5; alley 3 0 min 5 against;"
            + " alley 0 2 min 3 price 5; journey 0 2 carts 3; journey 1 0 carts 2; house 0;";
    /** Three CORNERS in a row: each ALLEY bars. No HOUSE, no GRID, and each JOURNEY needs both ALLEYS. */
    private static final String ROW = "corners 3; alley 0 1 min 1; alley 1 2 min 1; journey 0 2 carts 1; journey 2 0 carts 1;";

    public static void main(String[] args) {
        giveBounds();
        givesBounds();
        wayAndClearBounds();
        noSuchGiving();
        noSuchGivingFirst();
        forcedWayBounds();
        minutesBounds();
        journeyBounds();
        whatBounds();
        bestBounds();
        ringBounds();
        coinBounds();
        engineBounds();
        arriveBounds();
        afternoonBounds();
        walkBounds();
        goneBounds();
        judgeBounds();
        spareBounds();
        factBounds();
        imageBounds();
        rowBounds();
        writeBounds();
        pasteBounds();
        TestKit.finish();
    }

    private static void due(String call, long got, long want) {
        TestKit.due(call, got, want);
    }

    private static OneWays ended() {
        OneWays x = TestKit.town(RING);
        x.show(0);
        return x;
    }

    // ---- promises 6 to 9

    /** "GIVING g (0, 1) .. a way (0 OPEN, 1, 2, 3 BOTH)"; "-2: there are none such, it is told, BOTH without a price." */
    private static void giveBounds() {
        TestKit.edges("give(g, 0, 2)", 0, 1, 1, 0, -2, g -> FullTown.given().give(g, 0, 2));
        TestKit.edges("give(0, alley, 2)", 0, 1, 27, 1, -2, a -> FullTown.given().give(0, a, 2));
        TestKit.edges("give(0, 27, way)", 0, 1, 3, 1, -2, way -> FullTown.given().give(0, 27, way));
        TestKit.edges("give(0, 0, way), without a price", 0, 1, 2, 1, -2, way -> FullTown.given().give(0, 0, way));
        for (int way = -1; way <= 4; way++) {
            OneWays x = FullTown.given();
            due("give of a told one, " + way, x.give(0, FullTown.TOLD, way), -2);
            due("it stays", x.way(0, FullTown.TOLD), 1);
            due("give of a told one, GIVING 1, " + way, x.give(1, FullTown.TOLD, way), -2);
            due("it stays", x.way(1, FullTown.TOLD), 1);
        }
        due("told, with a price", TestKit.town("alley 0 1 min 1 price 3 told;").give(0, 0, 3), -2);
        due("no ALLEYS at all", new OneWays().give(0, 0, 0), -2);
        OneWays x = TestKit.town("alley 0 1 min 1 price 0; alley 0 1 min 1 price 999; alley 0 1 min 1;");
        due("BOTH with a price of 0", x.give(0, 0, 3), 0);
        due("BOTH with a price of 999", x.give(0, 1, 3), 0);
        due("BOTH without a price", x.give(0, 2, 3), -2);
        due("it stays", x.way(0, 2), 0);
        due("what it was", x.give(0, 0, 3), 3);
        due("what it was", x.give(0, 0, 0), 3);
    }

    private static OneWays rowed(int n, int value) {
        OneWays x = FullTown.empty();
        x.row(0, 0, n);
        for (int i = 0; i < n; i++) {
            x.write(0, i, value);
        }
        return x;
    }

    /** "as many as there are of both"; "those that are refused left out"; "-2: .. no such GIVING, SLOT; -6: it has nothing." */
    private static void givesBounds() {
        TestKit.edges("gives(g, 0)", 0, 27, 1, 27, -2, g -> FullTown.judged(0, 0).gives(g, 0));
        TestKit.edges("gives(0, slot)", 0, 27, 3, 27, -2, slot -> {
            OneWays x = FullTown.empty();
            for (int s = 0; s < 4; s++) {
                x.row(s, 3 - s, 28);
            }
            return x.gives(0, slot);
        });
        TestKit.edges("gives(0, slot) of nothing", 0, -6, 3, -6, -2, slot -> FullTown.given().gives(0, slot));
        int[] sizes = {0, 1, 26, 27, 28, 29, 59, 60};
        for (int n : sizes) {
            OneWays x = rowed(n, 2);
            // The told one, 26, is refused.
            due("gives of " + n, x.gives(0, 0), n > 28 ? 27 : n > FullTown.TOLD ? n - 1 : n);
            for (int a = 0; a < 28; a++) {
                due("way(0, " + a + ") by a row of " + n, x.way(0, a), a == FullTown.TOLD ? 1 : a < n ? 2 : 0);
                due("way(1, " + a + ") stays", x.way(1, a), a == FullTown.TOLD ? 1 : 0);
            }
        }
        due("gives of many without ALLEYS", emptyWithRow(60), 0);
        long[] refused = {-1, 4, 5, 128, 255, LOW, HIGH, Long.MIN_VALUE, Long.MAX_VALUE, 1L << 32, (1L << 32) + 1, (1L << 63) + 1};
        for (long v : refused) {
            OneWays x = TestKit.town("alley 0 1 min 1 price 0; alley 0 1 min 1;");
            x.give(0, 0, 2);
            x.give(0, 1, 2);
            x.row(0, 3, 2);
            x.write(0, 0, v);
            x.write(0, 1, 1);
            due("gives with " + v, x.gives(0, 0), 1);
            due("it stays", x.way(0, 0), 2);
            due("the next is given", x.way(0, 1), 1);
        }
        OneWays x = rowed(28, 3);
        due("BOTH, those without a price left out", x.gives(0, 0), 11);
        due("without a price", x.way(0, 15), 0);
        due("with a price", x.way(0, 16), 3);
        due("with a price of 0", x.way(0, 27), 3);
    }

    private static int emptyWithRow(int n) {
        OneWays x = new OneWays();
        x.row(2, 2, n);
        return x.gives(1, 2);
    }

    /** "NONE: there are none such."; clear: "-2: there is no such GIVING." */
    private static void wayAndClearBounds() {
        TestKit.edges("way(g, 27)", 0, 1, 1, 0, -1, g -> FullTown.given().way(g, 27));
        TestKit.edges("way(0, alley)", 0, 1, 27, 1, -1, a -> FullTown.given().way(0, a));
        TestKit.refusedAround("way(0, alley) without ALLEYS", 0, -1, -1, a -> new OneWays().way(0, a));
        TestKit.edges("clear(g)", 0, 27, 1, 0, -2, g -> FullTown.given().clear(g));
        OneWays x = FullTown.given();
        x.give(0, 27, 3);
        due("clear(0)", x.clear(0), 27);
        due("clear(0) again", x.clear(0), 0);
        due("OPEN", x.way(0, 27), 0);
        due("but what is told", x.way(0, FullTown.TOLD), 1);
        due("clear without ALLEYS", new OneWays().clear(0), 0);
    }

    // ---- "-2: there is none such. (So of all calls below that have a g.)"

    private static void noSuchGiving() {
        TestKit.edges("whole(g)", 0, 1, 1, 1, -2, g -> FullTown.given().whole(g));
        TestKit.edges("can(g)", 0, 1, 1, 1, -2, g -> FullTown.given().can(g));
        TestKit.edges("bar(g)", 0, -1, 1, -1, -2, g -> FullTown.given().bar(g));
        TestKit.edges("cut(g)", 0, 0, 1, 0, -2, g -> FullTown.given().cut(g));
        TestKit.edges("show(g)", 0, 0, 1, 27, -2, g -> FullTown.given().show(g));
        TestKit.edges("forced(g)", 0, 0, 1, 0, -2, g -> FullTown.given().forced(g));
        TestKit.edges("minutes(g, 0, 15)", 0, 15, 1, 1, -2, g -> FullTown.given().minutes(g, 0, 15));
        TestKit.edges("round(g, 0)", 0, 14, 1, 0, -2, g -> FullTown.given().round(g, 0));
        TestKit.edges("sum(g)", 0, FullTown.SUM, 1, 0, -2, g -> FullTown.given().sum(g));
        TestKit.edges("worst(g)", 0, 14, 1, 0, -2, g -> FullTown.given().worst(g));
        TestKit.edges("best(g, 0)", 0, FullTown.SUM, 1, -3, -2, g -> FullTown.given().best(g, 0));
        TestKit.edges("better(g)", 0, 1, 1, -5, -2, g -> ended().better(g));
        TestKit.edges("alike(g)", 0, 0, 1, 32, -2, g -> FullTown.given().alike(g));
        TestKit.edges("known(g)", 0, 24, 1, 24, -2, g -> TestKit.town("grid 4 by 4 min 1;").known(g));
        TestKit.edges("ring(g, 27)", 0, 75, 1, 61, -2, g -> FullTown.given().ring(g, 27));
        TestKit.edges("ended(g)", 0, 0, 1, -5, -2, g -> ended().ended(g));
        TestKit.edges("pair(g)", 0, 14, 1, 0, -2, g -> FullTown.given().pair(g));
        TestKit.edges("total(g, 0)", 0, 1920, 1, 1024, -2, g -> FullTown.given().total(g, 0));
        TestKit.edges("coin(g, 0)", 0, FullTown.SUM, 1, -5, -2, g -> FullTown.given().coin(g, 0));
        TestKit.edges("next(g, 0)", 0, 5, 1, -5, -2, g -> ended().next(g, 0));
        TestKit.edges("paid(g)", 0, 5, 1, 0, -2, g -> {
            OneWays x = ended();
            x.give(0, 4, 3);
            return x.paid(g);
        });
        TestKit.edges("fire(g, 8)", 0, 9, 1, 7, -2, g -> FullTown.given().fire(g, 8));
        TestKit.edges("lastFire(g)", 0, 14, 1, 7, -2, g -> FullTown.given().lastFire(g));
        TestKit.edges("reach(g, 1)", 0, 0x8001, 1, 0xc001, -2, g -> FullTown.given().reach(g, 1));
        TestKit.edges("sumBack(g)", 0, 594, 1, 0, -2, g -> FullTown.given().sumBack(g));
        TestKit.edges("walk(g, 0, 100)", 0, 4, 1, 4, -2, g -> FullTown.given().walk(g, 0, 100));
        TestKit.edges("signs(g)", 0, 27, 1, 1, -2, g -> FullTown.given().signs(g));
        TestKit.edges("gone(g, 0, 0)", 0, 0, 1, 15, -2, g -> FullTown.given().gone(g, 0, 0));
        TestKit.edges("load(g, 0)", 0, 990, 1, 297, -2, g -> FullTown.given().load(g, 0));
        TestKit.edges("busiest(g)", 0, 0, 1, 15, -2, g -> FullTown.given().busiest(g));
        TestKit.edges("spare(g, 60)", 0, 0, 1, 0, -2, g -> FullTown.given().spare(g, 60));
    }

    /** Where another refusal would be due as well, there being no such GIVING goes first. */
    private static void noSuchGivingFirst() {
        int[] none = {2, -1, LOW, HIGH};
        for (int g : none) {
            OneWays x = TestKit.town(ROW);
            x.give(0, 0, 1);
            x.give(0, 1, 1);
            due("known without a GRID", x.known(g), -2);
            due("fire without a HOUSE", x.fire(g, 0), -2);
            due("lastFire without a HOUSE", x.lastFire(g), -2);
            due("reach without a HOUSE", x.reach(g, 0), -2);
            due("gives of nothing", x.gives(g, 0), -2);
            due("total of another what", x.total(g, 2), -2);
            due("minutes of no CORNER", x.minutes(g, 3, 3), -2);
            due("gone of no JOURNEY", x.gone(g, 2, -1), -2);
            due("ring of no ALLEY", x.ring(g, 2), -2);
            x = new OneWays();
            due("new, whole", x.whole(g), -2);
            due("new, bar", x.bar(g), -2);
            due("new, show", x.show(g), -2);
            due("new, forced", x.forced(g), -2);
            due("new, forcedWay", x.forcedWay(g, 0), -1);
            due("new, best", x.best(g, 0), -2);
            due("new, better", x.better(g), -2);
            due("new, ended", x.ended(g), -2);
            due("new, pair", x.pair(g), -2);
            due("new, coin", x.coin(g, 0), -2);
            due("new, next", x.next(g, 0), -2);
            due("new, busiest", x.busiest(g), -2);
            due("new, load", x.load(g, 0), -2);
            due("new, sumBack", x.sumBack(g), -2);
            due("new, spare", x.spare(g, 1), -2);
        }
    }

    // ---- promises 16 to 34

    /** "0: it is not FORCED (or not OPEN, or it can not be ended); NONE: there is no such ALLEY, GIVING." */
    private static void forcedWayBounds() {
        TestKit.edges("forcedWay(g, 1)", 0, 1, 1, 0, -1, g -> {
            OneWays x = TestKit.town(RING);
            x.give(0, 0, 1);
            return x.forcedWay(g, 1);
        });
        TestKit.edges("forcedWay(0, alley)", 0, 0, 27, 0, -1, a -> FullTown.given().forcedWay(0, a));
        // Of 28 ALLEYS in two rows between two CORNERS the last is the only way back.
        String last = "alley 0 1 min 1 told;".repeat(27) + "alley 0 1 min 1;";
        TestKit.edges("forcedWay(1, alley) of the last", 0, 0, 27, 2, -1, a -> TestKit.town(last).forcedWay(1, a));
        due("forced, the last bit", TestKit.town(last).forced(1), 1 << 27);
        OneWays x = TestKit.town(ROW);
        due("it can't be ended", x.forcedWay(0, 0), 0);
        due("it can't be ended", x.forced(0), -1);
        x.give(0, 0, 1);
        due("not WHOLE", x.forcedWay(0, 1), 0);
        due("not OPEN", x.forcedWay(0, 0), 0);
        due("no ALLEYS", new OneWays().forcedWay(0, 0), -1);
        due("none OPEN, none FORCED", ended().forced(0), 0);
    }

    private static void minutesBounds() {
        TestKit.edges("minutes(0, a, 15)", 0, 15, 15, 0, -2, a -> FullTown.given().minutes(0, a, 15));
        TestKit.edges("minutes(0, 15, b)", 0, 1, 15, 0, -2, b -> FullTown.given().minutes(0, 15, b));
        TestKit.edges("minutes(0, a, 1) of two", 0, -1, 1, 0, -2, a -> new OneWays().minutes(0, a, 1));
        TestKit.edges("minutes(1, 1, b) of two", 0, -1, 1, 0, -2, b -> new OneWays().minutes(1, 1, b));
    }

    /** Calls that have a JOURNEY: "-2 also: there is none such." */
    private static void journeyBounds() {
        TestKit.edges("round(0, journey)", 0, 14, 9, 0, -2, j -> FullTown.given().round(0, j));
        TestKit.edges("gone(0, journey, 0)", 0, 0, 9, 0, -2, j -> FullTown.given().gone(0, j, 0));
        TestKit.edges("arrive(journey, 0, 1439)", 0, 15, 9, 6, -2, j -> FullTown.given().arrive(j, 0, 1439));
        TestKit.edges("journey(journey, 1)", 0, 15, 9, 6, NOTHING, j -> FullTown.given().journey(j, 1));
        TestKit.refusedAround("round(0, journey) without", 0, -1, -2, j -> new OneWays().round(0, j));
        TestKit.refusedAround("gone(0, journey, 0) without", 0, -1, -2, j -> new OneWays().gone(0, j, 0));
        TestKit.refusedAround("arrive(journey, 0, 0) without", 0, -1, -2, j -> new OneWays().arrive(j, 0, 0));
        TestKit.refusedAround("journey(journey, 0) without", 0, -1, NOTHING, j -> new OneWays().journey(j, 0));
        OneWays x = TestKit.town(ROW);
        x.give(0, 0, 1);
        due("round, it can be gone", x.round(0, 0), 0);
        due("round, it can't", x.round(0, 1), -1);
        due("sum, some JOURNEY can't", x.sum(0), -1);
        due("worst likewise", x.worst(0), -1);
        due("sumBack, one can't be", x.sumBack(0), -1);
        due("sum, no ALLEYS", TestKit.town("journey 0 1 carts 1;").sum(0), -1);
        due("sum, no JOURNEYS", new OneWays().sum(0), 0);
        due("worst, no JOURNEYS", new OneWays().worst(0), 0);
        due("sumBack, no JOURNEYS", new OneWays().sumBack(0), 0);
    }

    /** total: "-2 also: another what"; paired: "NONE for others, and ahead of any." */
    private static void whatBounds() {
        TestKit.edges("total(0, what)", 0, 1920, 1, 15, -2, what -> FullTown.given().total(0, what));
        TestKit.edges("total(0, what), not WHOLE", 0, -1, 1, -1, -2, what -> new OneWays().total(0, what));
        TestKit.edges("paired(what)", 0, 0, 1, 15, -1, what -> {
            OneWays x = FullTown.given();
            x.pair(0);
            return x.paired(what);
        });
        TestKit.edges("paired(what) ahead of any", 0, -1, 1, -1, -1, what -> FullTown.given().paired(what));
        TestKit.edges("paired(what) behind one that told none", 0, -1, 1, -1, -1, what -> {
            OneWays x = new OneWays();
            x.pair(0);
            x.pair(2);
            return x.paired(what);
        });
    }

    /** "-2 also: another what; -3: more than ten are OPEN; NONE, and nothing happens: it can not be ended." */
    private static void bestBounds() {
        TestKit.edges("best(0, what)", 0, FullTown.SUM, 1, 14, -2, what -> FullTown.given().best(0, what));
        TestKit.edges("best(1, what), 27 are OPEN", 0, -3, 1, -3, -2, what -> FullTown.given().best(1, what));
        TestKit.edges("best(0, what), can't be ended", 0, -1, 1, -1, -2, what -> TestKit.town(ROW).best(0, what));
        for (int open = 0; open <= 28; open++) {
            OneWays x = TestKit.town("alley 0 1 min 1;".repeat(28) + "journey 0 1 carts 1; journey 1 0 carts 1;");
            for (int a = open; a < 28; a++) {
                x.give(0, a, 1 + a % 2);
            }
            due("OPEN", x.count(6), open);
            due("best of " + open, x.best(0, 0), open > 10 ? -3 : 0);
            due("OPEN then", x.count(6), open > 10 ? open : 0);
        }
        OneWays x = TestKit.town("corners 3;" + "alley 0 1 min 1;".repeat(10));
        due("ten OPEN that can't be ended", x.best(0, 1), -1);
        due("nothing happens", x.count(6), 10);
        x = TestKit.town("corners 3;" + "alley 0 1 min 1;".repeat(11));
        due("eleven OPEN that can't be ended", x.best(0, 1), -3);
        due("nothing happens", x.count(6), 11);
        due("no ALLEYS", new OneWays().best(0, 0), -1);
        due("none OPEN, not WHOLE", TestKit.town("alley 0 1 min 1 told;").best(0, 0), -1);
    }

    private static void ringBounds() {
        TestKit.edges("ring(0, alley)", 0, 16, 27, 75, -2, a -> FullTown.given().ring(0, a));
        TestKit.refusedAround("ring(0, alley) without", 0, -1, -2, a -> new OneWays().ring(0, a));
        due("no way back", TestKit.town("alley 0 1 min 1 told;").ring(0, 0), -1);
        due("its own way back, OPEN", TestKit.town("alley 0 1 min 60;").ring(0, 0), 120);
    }

    /** Nine ALLEYS in a row with a price of 999 each, and one way back, in 60 minutes, for one cart from 9 to 0. */
    static OneWays dear() {
        StringBuilder text = new StringBuilder("corners 10;");
        for (int c = 0; c < 9; c++) {
            text.append("alley ").append(c).append(' ').append(c + 1).append(" min 1 price 999;");
        }
        OneWays x = TestKit.town(text + "alley 9 0 min 60 told; journey 9 0 carts 1;");
        for (int a = 0; a < 9; a++) {
            x.give(0, a, 1);
        }
        return x;
    }

    /** "COIN (0 .. 9999)"; "all their prices together not above it"; next: "NONE: there is none up to 9999." */
    private static void coinBounds() {
        TestKit.edges("coin(0, coin)", 0, 51, 9999, 0, -2, c -> dear().coin(0, c));
        TestKit.edges("coin(1, coin), OPEN", 0, -5, 9999, -5, -2, c -> dear().coin(1, c));
        TestKit.edges("next(0, coin)", 0, 8991, 9999, -1, -2, c -> dear().next(0, c));
        TestKit.edges("next(1, coin), OPEN", 0, -5, 9999, -5, -2, c -> dear().next(1, c));
        due("one coin too few", dear().coin(0, 8990), 51);
        due("just enough", dear().coin(0, 8991), 0);
        due("more than enough", dear().coin(0, 8992), 0);
        due("next of one too few", dear().next(0, 8990), 8991);
        due("next of just enough", dear().next(0, 8991), -1);
        OneWays x = dear();
        due("one coin too few", x.coin(0, 8990), 51);
        due("nothing is paid for nothing", x.paid(0), 0);
        due("just enough", x.coin(0, 8991), 0);
        due("paid", x.paid(0), 8991);
        due("none left", x.coin(0, 9999), 0);
        due("none left", x.next(0, 0), -1);
        due("paid of none", new OneWays().paid(0), 0);
        due("paid of OPEN ones", FullTown.given().paid(1), 0);
        x = FullTown.given();
        for (int a = 0; a < 28; a++) {
            x.give(0, a, 3);
        }
        due("paid of all that may be", x.paid(0), 9990);
        due("not WHOLE", TestKit.town("alley 0 1 min 1 told;").coin(0, 0), -5);
        due("not WHOLE", TestKit.town("alley 0 1 min 1 told;").next(0, 0), -5);
        due("no ALLEYS", new OneWays().coin(0, 0), -5);
        due("no ALLEYS", new OneWays().next(0, 0), -5);
        x = ended();
        due("no coin", x.coin(0, 0), 20);
        due("one too few", x.coin(0, 4), 20);
        due("just enough", x.coin(0, 5), 6);
        x = TestKit.town("alley 0 1 min 1 price 0; alley 1 0 min 9 told; journey 1 0 carts 1;");
        x.give(0, 0, 1);
        due("for nothing", x.coin(0, 0), 0);
        due("BOTH for nothing", x.way(0, 0), 3);
    }

    /** "-2 also: there is no such CORNER; -6: there is no HOUSE."; "so many minutes (0 .. 9999) or fewer". */
    private static void engineBounds() {
        TestKit.edges("fire(0, corner)", 0, 1, 15, 0, -2, c -> FullTown.given().fire(0, c));
        TestKit.edges("fire(0, corner), no HOUSE", 0, -6, 1, -6, -2, c -> new OneWays().fire(0, c));
        TestKit.edges("reach(0, minutes)", 0, 0x8000, 9999, 0xffff, -2, m -> FullTown.given().reach(0, m));
        TestKit.edges("reach(0, minutes), no HOUSE", 0, -6, 9999, -6, -2, m -> new OneWays().reach(0, m));
        OneWays x = FullTown.given();
        int reached = 0x8000;
        for (int m = 0; m <= 15; m++) {
            due("reach(0, " + m + ")", x.reach(0, m), reached);
            reached |= 1 << m;
        }
        due("reach(0, 16)", x.reach(0, 16), 0xffff);
        due("no HOUSE", new OneWays().lastFire(0), -6);
        x = TestKit.town("corners 16; house 15;");
        due("it can't come", x.fire(0, 0), -1);
        due("it is there", x.fire(0, 15), 0);
        due("the least to which it can't come", x.lastFire(0), 0);
        due("reach, it can't come", x.reach(0, 9999), 0x8000);
        due("the least of several", TestKit.town("corners 3; alley 0 1 min 4; alley 0 2 min 4; house 0;").lastFire(0), 1);
        due("later than all", TestKit.town("corners 4; alley 0 1 min 60; house 0;").lastFire(0), 2);
        due("the HOUSE is as late", TestKit.town("alley 0 1 min 1; house 0;").lastFire(0), 1);
    }

    // ---- promises 35 to 47

    /** "a minute (0 .. 1439) .. a NOON (0 .. 1439)"; "if it is there ahead of NOON, by GIVING 0, else by GIVING 1". */
    private static void arriveBounds() {
        TestKit.edges("arrive(0, leave, 1439)", 0, 15, 1439, 1440, -2, leave -> FullTown.given().arrive(0, leave, 1439));
        TestKit.edges("arrive(0, 10, noon)", 0, 11, 1439, 25, -2, noon -> FullTown.given().arrive(0, 10, noon));
        due("at 0, NOON 0", FullTown.given().arrive(0, 0, 0), 1);
        due("at 0, NOON 1", FullTown.given().arrive(0, 0, 1), 1 + 2);
        due("one minute ahead of NOON", FullTown.given().arrive(0, 99, 100), 102);
        due("at NOON", FullTown.given().arrive(0, 100, 100), 101);
        due("one minute behind NOON", FullTown.given().arrive(0, 101, 100), 102);
        due("the last but one", FullTown.given().arrive(0, 1438, 1439), 1438 + 3);
        due("beyond the day", FullTown.given().arrive(0, 1439, 1438), 1440);
        OneWays x = TestKit.town("alley 0 1 min 60 price 0; journey 0 1 carts 1;");
        due("all the day over", x.arrive(0, 1439, 0), 1499);
        x.give(0, 0, 2);
        due("it can't ahead of NOON", x.arrive(0, 9, 10), -1);
        due("it can at NOON", x.arrive(0, 10, 10), 70);
        due("it can't, no ALLEYS", TestKit.town("journey 1 0 carts 1;").arrive(0, 0, 0), -1);
    }

    /** "(0 .. 2)"; "-2: another k; -5: as better() of GIVING 0, or a JOURNEY can't be gone back." */
    private static void afternoonBounds() {
        TestKit.edges("afternoon(k)", 0, 0, 2, 2, -2, k -> {
            OneWays x = TestKit.town("corners 3; alley 0 1 min 1; alley 0 1 min 5; alley 1 2 min 1; alley 2 1 min 5; journey 0 2 carts 1;");
            x.give(0, 0, 1);
            x.give(0, 1, 2);
            x.give(0, 2, 1);
            x.give(0, 3, 1);
            return x.afternoon(k);
        });
        TestKit.edges("afternoon(k), OPEN", 0, -5, 2, -5, -2, k -> TestKit.town(RING).afternoon(k));
        TestKit.edges("afternoon(k), no ALLEYS", 0, -5, 2, -5, -2, k -> new OneWays().afternoon(k));
        OneWays x = TestKit.town(ROW);
        x.give(0, 0, 1);
        x.give(0, 1, 1);
        due("a JOURNEY can't be gone back", x.afternoon(0), -5);
    }

    /** "so many ALLEYS (0 .. 100) from a CORNER"; "they stand without any. -2 also: others." */
    private static void walkBounds() {
        TestKit.edges("walk(0, corner, 1)", 0, 1, 15, 0, -2, c -> FullTown.given().walk(0, c, 1));
        TestKit.edges("walk(0, 3, steps)", 0, 3, 100, 7, -2, n -> FullTown.given().walk(0, 3, n));
        TestKit.edges("walk(0, corner, 100) without ALLEYS", 0, 0, 1, 1, -2, c -> new OneWays().walk(0, c, 100));
        OneWays x = FullTown.given();
        for (int n = 0; n <= 100; n++) {
            due("walk(0, 15, " + n + ")", x.walk(0, 15, n), (15 + n) % 16);
        }
    }

    /** gone: "NONE: there is none such, it can't be gone."; load: "-2 also: there is no such ALLEY." */
    private static void goneBounds() {
        TestKit.edges("gone(0, 0, i)", 0, 0, 14, 14, -1, i -> FullTown.given().gone(0, 0, i));
        TestKit.edges("gone(1, 0, i)", 0, 15, 0, 15, -1, i -> FullTown.given().gone(1, 0, i));
        TestKit.refusedAround("gone(0, 0, i), it can't be gone", 0, -1, -1, i -> TestKit.town("journey 0 1 carts 1;").gone(0, 0, i));
        TestKit.edges("load(0, alley)", 0, 990, 27, 0, -2, a -> FullTown.given().load(0, a));
        TestKit.refusedAround("load(0, alley) without", 0, -1, -2, a -> new OneWays().load(0, a));
        due("busiest, no ALLEY", new OneWays().busiest(1), -1);
        due("busiest, no carts", TestKit.town("alley 0 1 min 1; alley 0 1 min 1;").busiest(0), 0);
    }

    /** "-2: there is no such SLOT, another what; -6: it has nothing."; VII. */
    private static void judgeBounds() {
        TestKit.edges("judge(slot, 1)", 0, 1, 3, 1, -2, slot -> {
            OneWays x = FullTown.judged(0, 2);
            for (int other = 1; other < 4; other++) {
                x.row(other, 2, 28);
                x.paste(0, 0, other, 0, 28);
            }
            return x.judge(slot, 1);
        });
        TestKit.edges("judge(0, what)", 0, 1, 6, 0, -2, what -> FullTown.judged(0, 0).judge(0, what));
        TestKit.edges("judge(slot, 6) of nothing", 0, -6, 3, -6, -2, slot -> FullTown.given().judge(slot, 6));
        TestKit.edges("judge(3, what) of nothing", 0, -6, 6, -6, -2, what -> FullTown.given().judge(3, what));
        int[] want = {1, 1, FullTown.SUM, 14, 27, 0, 0};
        for (int width = 0; width < 4; width++) {
            OneWays x = FullTown.judged(width, width);
            for (int what = 0; what < 7; what++) {
                due("judge(" + width + ", " + what + ")", x.judge(width, what), want[what]);
            }
        }
        for (int n = 0; n <= 60; n++) {
            OneWays x = rowed(n, 1);
            for (int what = 0; what < 7; what++) {
                due("judge(0, " + what + ") of " + n, x.judge(0, what), n == 28 ? what == 5 ? 27 : want[what] : what == 0 ? 0 : -1);
            }
        }
        for (int n = 0; n <= 60; n += 15) {
            OneWays x = new OneWays();
            x.row(1, 1, n);
            due("of no ALLEYS " + n, x.judge(1, 0), n == 0 ? 1 : 0);
            due("of no ALLEYS, WHOLE " + n, x.judge(1, 1), n == 0 ? 0 : -1);
            due("of no ALLEYS, SUM " + n, x.judge(1, 2), n == 0 ? 0 : -1);
        }
        judgedNumbers();
    }

    /** "each 0 .. 3, of a told ALLEY 1, 3 only with a price". */
    private static void judgedNumbers() {
        long[] numbers = {Long.MIN_VALUE, LOW, -256, -1, 0, 1, 2, 3, 4, 5, 255, 256, 257, HIGH, 1L << 32, (1L << 32) + 1, Long.MAX_VALUE};
        for (long v : numbers) {
            due("no price, " + v, judgedOne("alley 0 1 min 1;", v), v >= 0 && v <= 2 ? 1 : 0);
            due("a price, " + v, judgedOne("alley 0 1 min 1 price 0;", v), v >= 0 && v <= 3 ? 1 : 0);
            due("told, " + v, judgedOne("alley 0 1 min 1 told;", v), v == 1 ? 1 : 0);
            due("told, with a price, " + v, judgedOne("alley 0 1 min 1 price 9 told;", v), v == 1 ? 1 : 0);
        }
        for (int a = 0; a < 28; a++) {
            OneWays x = FullTown.judged(0, 0);
            x.write(0, a, 4);
            due("4 of ALLEY " + a, x.judge(0, 0), 0);
            due("4 of ALLEY " + a, x.judge(0, 1), -1);
            x.write(0, a, 3);
            due("3 of ALLEY " + a, x.judge(0, 0), a < 16 || a == FullTown.TOLD ? 0 : 1);
            due("prices, 3 of ALLEY " + a, x.judge(0, 6), a < 16 || a == FullTown.TOLD ? -1 : a == 27 ? 0 : 999);
        }
    }

    private static int judgedOne(String text, long v) {
        OneWays x = TestKit.town(text);
        x.row(0, 3, 1);
        x.write(0, 0, v);
        return x.judge(0, 0);
    }

    /** "so many minutes (1 .. 60)"; "-2 also: other minutes; -5: a JOURNEY can't be gone." */
    private static void spareBounds() {
        String far = "alley 0 1 min 60; alley 0 1 min 60; journey 0 1 carts 99;";
        TestKit.edges("spare(0, minutes)", 1, 59 * 99, 60, 0, -2, m -> TestKit.town(far).spare(0, m));
        TestKit.edges("spare(0, minutes), can't be gone", 1, -5, 60, -5, -2, m -> TestKit.town("journey 0 1 carts 1;").spare(0, m));
        TestKit.edges("spare(0, minutes), no JOURNEYS", 1, 0, 60, 0, -2, m -> new OneWays().spare(0, m));
        TestKit.edges("spared(what)", 0, 0, 1, 1, -1, what -> {
            OneWays x = new OneWays();
            x.spare(0, 60);
            return x.spared(what);
        });
        TestKit.edges("spared(what) ahead of any", 0, -1, 1, -1, -1, what -> FullTown.given().spared(what));
        TestKit.edges("spared(what) behind one that told none", 0, -1, 1, -1, -1, what -> {
            OneWays x = TestKit.town("journey 0 1 carts 1;");
            x.spare(0, 60);
            x.spare(0, 61);
            return x.spared(what);
        });
        OneWays x = TestKit.town("corners 16; alley 14 15 min 60; journey 15 14 carts 1;");
        due("the last pair", x.spare(0, 59), 1);
        due("the lesser first", x.spared(0), 14);
        due("the greater", x.spared(1), 15);
    }

    // ---- promises 48 to 56

    private static void factBounds() {
        TestKit.edges("alley(alley, 2)", 0, 1, 27, 60, NOTHING, a -> FullTown.given().alley(a, 2));
        TestKit.edges("alley(27, what)", 0, 15, 5, 0, NOTHING, what -> FullTown.given().alley(27, what));
        TestKit.refusedAround("alley(alley, 0) without", 0, -1, NOTHING, a -> new OneWays().alley(a, 0));
        TestKit.edges("street(street, 0)", 0, 0, 5, 26, -1, s -> FullTown.given().street(s, 0));
        TestKit.edges("street(0, i)", 0, 0, 5, 5, -1, i -> FullTown.given().street(0, i));
        TestKit.edges("street(5, i)", 0, 26, 1, 27, -1, i -> FullTown.given().street(5, i));
        TestKit.refusedAround("street(street, 0) without", 0, -1, -1, s -> new OneWays().street(s, 0));
        TestKit.edges("journey(9, what)", 0, 0, 3, 6, NOTHING, what -> FullTown.given().journey(9, what));
        TestKit.edges("count(what)", 0, FullTown.LINES, 11, 0, -1, what -> FullTown.given().count(what));
        TestKit.edges("count(what) of new", 0, 0, 11, 0, -1, what -> new OneWays().count(what));
        int[] counts = {46, 16, 28, 10, 1, 0, 0, 0, 15, 4, 6, 0};
        OneWays x = FullTown.stuffed();
        x.show(1);
        for (int what = 0; what < counts.length; what++) {
            due("full, count(" + what + ")", x.count(what), counts[what]);
        }
    }

    /** "k (0 .. 2)"; "-2: no such k; -6: it has nothing." */
    private static void imageBounds() {
        TestKit.edges("keep(k)", 0, 0, 2, 0, -2, k -> FullTown.given().keep(k));
        TestKit.edges("back(k)", 0, 0, 2, 0, -2, k -> FullTown.stuffed().back(k));
        TestKit.edges("back(k) of nothing", 0, -6, 2, -6, -2, k -> FullTown.given().back(k));
        for (int k = 0; k < 3; k++) {
            OneWays x = new OneWays();
            due("keep(" + k + ") of no TOWN", x.keep(k), 0);
            for (int other = 0; other < 3; other++) {
                due("back(" + other + ")", x.back(other), other == k ? 0 : -6);
            }
            TestKit.tell(x, FullTown.text());
            due("back(" + k + ") to no TOWN", x.back(k), 0);
            due("no ALLEYS", x.count(2), 0);
            due("two CORNERS", x.count(1), 2);
            due("no LINES", x.count(0), 0);
            due("no HOUSE", x.count(8), -1);
        }
    }

    /** "-2: there is no such SLOT or WIDTH (0 .. 3), or n is above 60; -3, and the SLOT stays: n is below 0." */
    private static void rowBounds() {
        TestKit.edges("row(slot, 0, 1)", 0, 0, 3, 0, -2, slot -> new OneWays().row(slot, 0, 1));
        TestKit.edges("row(0, width, 1)", 0, 0, 3, 0, -2, width -> new OneWays().row(0, width, 1));
        due("row(0, 0, 0)", new OneWays().row(0, 0, 0), 0);
        due("row(3, 3, 60)", new OneWays().row(3, 3, 60), 0);
        int[] above = {61, 62, 64, 255, 256, 65536, HIGH - 1, HIGH};
        for (int n : above) {
            due("row(0, 0, " + n + ")", new OneWays().row(0, 0, n), -2);
            due("row(3, 3, " + n + ")", new OneWays().row(3, 3, n), -2);
        }
        int[] below = {-1, -2, -60, -256, LOW + 1, LOW};
        for (int n : below) {
            due("row(0, 0, " + n + ")", new OneWays().row(0, 0, n), -3);
            due("row(3, 3, " + n + ")", new OneWays().row(3, 3, n), -3);
            due("no SLOT ahead of it", new OneWays().row(4, 0, n), -2);
            due("no WIDTH ahead of it", new OneWays().row(0, 4, n), -2);
            due("neither", new OneWays().row(-1, -1, n), -2);
        }
    }

    private static OneWays oneRow(int width, int n) {
        OneWays x = new OneWays();
        x.row(1, width, n);
        return x;
    }

    /** "-2: there is no such SLOT; -6: it has nothing; -7: there is no such number." */
    private static void writeBounds() {
        TestKit.edges("write(slot, 0, 0)", 0, 0, 3, 0, -2, slot -> FullTown.stuffed().write(slot, 0, 0));
        TestKit.edges("write(slot, 60, 0) of nothing", 0, -6, 3, -6, -2, slot -> new OneWays().write(slot, 60, 0));
        TestKit.edges("write(1, i, 0) of 60", 0, 0, 59, 0, -7, i -> oneRow(3, 60).write(1, i, 0));
        TestKit.edges("write(1, i, 0) of 1", 0, 0, 0, 0, -7, i -> oneRow(0, 1).write(1, i, 0));
        TestKit.refusedAround("write(1, i, 0) of none", 0, -1, -7, i -> oneRow(2, 0).write(1, i, 0));
        TestKit.refusedAround("write(0, i, 0) of nothing", 0, -1, -6, i -> oneRow(2, 0).write(0, i, 0));
        due("no SLOT ahead of all", new OneWays().write(4, -1, 0), -2);
        long[] numbers = {Long.MIN_VALUE, Long.MAX_VALUE, -1, 0, LOW, HIGH};
        for (long v : numbers) {
            for (int width = 0; width < 4; width++) {
                due("write of " + v, oneRow(width, 1).write(1, 0, v), 0);
            }
        }
        cutToWidth();
    }

    /** "v, cut to its WIDTH": what is beyond its bytes falls away, and nothing else. */
    private static void cutToWidth() {
        for (int width = 0; width < 4; width++) {
            int bits = 8 << width;
            for (int way = 0; way <= 3; way++) {
                for (int bit = 2; bit < 64; bit++) {
                    OneWays x = TestKit.town("alley 0 1 min 1 price 0;");
                    x.row(0, width, 1);
                    x.write(0, 0, way | 1L << bit);
                    due("WIDTH " + width + ", " + way + " and bit " + bit, x.judge(0, 0), bit >= bits ? 1 : 0);
                    due("gives", x.gives(0, 0), bit >= bits ? 1 : 0);
                    due("way", x.way(0, 0), bit >= bits ? way : 0);
                }
            }
        }
    }

    private static OneWays twoRows() {
        OneWays x = new OneWays();
        x.row(0, 2, 5);
        x.row(3, 2, 7);
        return x;
    }

    /** "-2: .. no such SLOT; -6: one has nothing; -8: .. not of one WIDTH; -7 .. beyond .., or a place or n is below 0." */
    private static void pasteBounds() {
        TestKit.edges("paste(slot, 0, 3, 0, 1)", 0, -8, 3, 0, -2, slot -> FullTown.stuffed().paste(slot, 0, 3, 0, 1));
        TestKit.edges("paste(0, 0, to, 0, 1)", 0, 0, 3, -8, -2, to -> FullTown.stuffed().paste(0, 0, to, 0, 1));
        TestKit.edges("paste(slot, 9, 0, 9, 9) of nothing", 0, -6, 3, -6, -2, slot -> new OneWays().paste(slot, 9, 0, 9, 9));
        TestKit.edges("paste(0, 9, to, 9, 9) of nothing", 0, -6, 3, -6, -2, to -> new OneWays().paste(0, 9, to, 9, 9));
        TestKit.edges("paste(0, i, 3, 0, 1)", 0, 0, 4, 0, -7, i -> twoRows().paste(0, i, 3, 0, 1));
        TestKit.edges("paste(0, 0, 3, k, 1)", 0, 0, 6, 0, -7, k -> twoRows().paste(0, 0, 3, k, 1));
        TestKit.edges("paste(3, i, 0, 0, 1)", 0, 0, 6, 0, -7, i -> twoRows().paste(3, i, 0, 0, 1));
        TestKit.edges("paste(3, 0, 0, k, 1)", 0, 0, 4, 0, -7, k -> twoRows().paste(3, 0, 0, k, 1));
        TestKit.edges("paste(0, 0, 3, 0, n)", 0, 0, 5, 0, -7, n -> twoRows().paste(0, 0, 3, 0, n));
        TestKit.edges("paste(3, 0, 0, 0, n)", 0, 0, 5, 0, -7, n -> twoRows().paste(3, 0, 0, 0, n));
        TestKit.edges("paste(0, 2, 3, 0, n)", 0, 0, 3, 0, -7, n -> twoRows().paste(0, 2, 3, 0, n));
        TestKit.edges("paste(0, 0, 3, 4, n)", 0, 0, 3, 0, -7, n -> twoRows().paste(0, 0, 3, 4, n));
        TestKit.edges("paste(3, i, 3, 0, 5)", 0, 0, 2, 0, -7, i -> twoRows().paste(3, i, 3, 0, 5));
        due("a sum that wraps around", twoRows().paste(0, HIGH, 3, 0, HIGH), -7);
        due("a sum that wraps around", twoRows().paste(0, 1, 3, 1, HIGH), -7);
        due("a sum that wraps around", twoRows().paste(0, HIGH, 3, HIGH, 1), -7);
        due("a sum that wraps around", twoRows().paste(0, LOW, 3, LOW, LOW), -7);
        due("none of none", emptyRows().paste(0, 0, 1, 0, 0), 0);
        due("one of none", emptyRows().paste(0, 0, 1, 0, 1), -7);
        for (int width = 0; width < 4; width++) {
            for (int other = 0; other < 4; other++) {
                OneWays x = new OneWays();
                x.row(0, width, 3);
                x.row(1, other, 3);
                due("paste of WIDTHS " + width + ", " + other, x.paste(0, 0, 1, 0, 3), width == other ? 0 : -8);
                due("-8 goes first", x.paste(0, -1, 1, 0, 9), width == other ? -7 : -8);
                due("-6 goes first", x.paste(0, -1, 2, 0, 9), -6);
                due("-2 goes first", x.paste(0, -1, 4, 0, 9), -2);
                due("-2 goes first", x.paste(-1, -1, 2, 0, 9), -2);
            }
        }
    }

    private static OneWays emptyRows() {
        OneWays x = new OneWays();
        x.row(0, 1, 0);
        x.row(1, 1, 0);
        return x;
    }
}
