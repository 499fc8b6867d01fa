/** Terms II to VI at their edges, by hand: each sentence that names such a case has a test of its own. */
public final class TermsTest {
    private static final String TRIANGLE = "corners 3; alley 0 1 min 1; alley 1 2 min 1; alley 2 0 min 1;";

    public static void main(String[] args) {
        waysOfAlleys();
        toldInBoth();
        notWhole();
        bars();
        shownAndForced();
        greatestNumbers();
        rounds();
        best();
        firstOneIsTurned();
        oneAheadOfPairs();
        pairsAheadOfRings();
        ringsTurned();
        ringsOfAll();
        pairsOfCorners();
        coinByPrice();
        coinByNumbers();
        theFirstNine();
        engine();
        overNoon();
        afternoons();
        signs();
        walks();
        streetsAndGrid();
        changes();
        spares();
        TestKit.finish();
    }

    private static void due(String call, long got, long want) {
        TestKit.due(call, got, want);
    }

    private static void dueWays(String call, OneWays x, int g, int... want) {
        for (int a = 0; a < want.length; a++) {
            due(call + ", way(" + g + ", " + a + ")", x.way(g, a), want[a]);
        }
    }

    private static OneWays given(String text, int... ways) {
        OneWays x = TestKit.town(text);
        for (int a = 0; a < ways.length; a++) {
            x.give(0, a, ways[a]);
        }
        return x;
    }

    // ---- II

    /** "each ALLEY is OPEN (0), goes from A to B (1), from B to A (2) or BOTH ways (3 ..)"; "OPEN may be gone both ways". */
    private static void waysOfAlleys() {
        int[][] want = {{7, 7}, {-1, 7}, {7, -1}, {7, 7}};
        for (int way = 0; way <= 3; way++) {
            OneWays x = given("alley 1 0 min 7 price 0;", way);
            due("from 0 to 1, way " + way, x.minutes(0, 0, 1), want[way][0]);
            due("from 1 to 0, way " + way, x.minutes(0, 1, 0), want[way][1]);
            due("whole, way " + way, x.whole(0), way % 3 == 0 ? 1 : 0);
            due("can, way " + way, x.can(0), way == 3 ? 1 : 0);
            due("bar, way " + way, x.bar(0), way == 0 ? 0 : way == 3 ? -1 : -3);
            due("cut, way " + way, x.cut(0), way == 1 ? 1 : way == 2 ? 2 : 0);
        }
    }

    /** "Told ones go from A to B in both GIVINGS." */
    private static void toldInBoth() {
        OneWays x = TestKit.town("corners 3; alley 2 0 min 3 price 8 told;");
        for (int g = 0; g < 2; g++) {
            due("told, way(" + g + ", 0)", x.way(g, 0), 1);
            due("from A to B", x.minutes(g, 2, 0), 3);
            due("not from B to A", x.minutes(g, 0, 2), -1);
            due("clear", x.clear(g), 0);
            due("cleared, way(" + g + ", 0)", x.way(g, 0), 1);
        }
        due("none OPEN", x.count(6) + x.count(7), 0);
        due("one told", x.count(4), 1);
        due("28 told", TestKit.town("alley 0 1 min 1 told;".repeat(28)).count(4), 28);
    }

    /** "WHOLE: from each CORNER one comes to each other"; cut: "the least one from which not all can .. itself too". */
    private static void notWhole() {
        OneWays x = given(TRIANGLE, 2, 0, 1);
        due("no way out of 0", x.whole(0), 0);
        due("cut", x.cut(0), 1);
        x = given(TRIANGLE, 1, 0, 2);
        due("no way into 0", x.whole(0), 0);
        due("cut", x.cut(0), 6);
        due("can", x.can(0), 0);
        due("bar", x.bar(0), -3);
        x = given(TRIANGLE, 0, 1, 2);
        due("no way out of 2", x.whole(0), 0);
        due("cut", x.cut(0), 4);
        x = FullTown.empty();
        int[] alleys = {14, 15, 27};
        for (int a : alleys) {
            x.give(0, a, a == 14 ? 1 : 2);
        }
        due("no way out of the last", x.whole(0), 0);
        due("cut", x.cut(0), 1 << 15);
        x.give(0, 27, 1);
        due("one way out of the last", x.whole(0), 1);
        due("cut", x.cut(0), 0);
        due("CORNERS without ALLEYS", TestKit.town("corners 16;").cut(1), 1);
        due("all but the last", TestKit.town("corners 3; alley 0 1 min 1;").cut(0), 3);
    }

    /** "BAR: it is WHOLE, but can not be ended: the least OPEN ALLEY without which (all others taken both ways) ..". */
    private static void bars() {
        String row = "corners 4; alley 0 1 min 1; alley 0 1 min 1; alley 2 3 min 1 price 1; alley 1 2 min 1 price 1;";
        OneWays x = TestKit.town(row);
        due("the least", x.bar(0), 2);
        x.give(0, 2, 3);
        due("one that is BOTH bars nothing", x.bar(0), 3);
        x.give(0, 3, 3);
        due("it can be ended", x.bar(0), -1);
        due("can", x.can(0), 1);
        x.give(0, 3, 1);
        due("not WHOLE", x.bar(0), -3);
        due("can", x.can(0), 0);
        x = TestKit.town("alley 0 1 min 1; alley 0 1 min 1 told;");
        due("told ones taken both ways", x.bar(0), -1);
        due("the last bars", TestKit.town("corners 3;" + "alley 0 1 min 1;".repeat(27) + "alley 1 2 min 1;").bar(1), 27);
        due("none OPEN, WHOLE", given(TRIANGLE, 1, 1, 1).bar(0), -1);
        due("none OPEN, can", given(TRIANGLE, 1, 1, 1).can(0), 1);
    }

    /** "OPEN ALLEYS in turn, by numbers: way 1, if it CAN be ended with that, else 2." */
    private static void shownAndForced() {
        OneWays x = TestKit.town("alley 0 1 min 1; alley 0 1 min 1 told;");
        due("forced", x.forced(0), 1);
        due("forcedWay", x.forcedWay(0, 0), 2);
        due("a told one is not OPEN", x.forcedWay(0, 1), 0);
        due("show", x.show(0), 1);
        dueWays("show", x, 0, 2, 1);
        x = TestKit.town("alley 0 1 min 1; alley 0 1 min 1; alley 0 1 min 1;");
        due("none is forced", x.forced(0), 0);
        due("show", x.show(0), 3);
        dueWays("the last must", x, 0, 1, 1, 2);
        x = given("alley 0 1 min 1; alley 0 1 min 1; alley 0 1 min 1;", 2, 0, 2);
        due("forced", x.forced(0), 2);
        due("forcedWay", x.forcedWay(0, 1), 1);
        due("show", x.show(0), 1);
        dueWays("those that are given stay", x, 0, 2, 1, 2);
        due("show of none", x.show(0), 0);
        x = TestKit.town(TRIANGLE);
        due("show", x.show(1), 3);
        dueWays("show", x, 1, 1, 1, 1);
        due("no ALLEYS", new OneWays().show(0), -1);
        due("no ALLEYS", new OneWays().forced(0), -1);
    }

    // ---- III

    /** The longest ways that there can be, with the most carts, and nothing that wraps around. */
    private static void greatestNumbers() {
        StringBuilder ring = new StringBuilder("corners16;");
        for (int c = 0; c < 16; c++) {
            ring.append("alley").append(c).append(' ').append((c + 1) % 16).append("min60;");
        }
        OneWays x = TestKit.town(ring + "journey0 15carts99;".repeat(10) + "house0;");
        x.show(0);
        x.show(1);
        due("minutes", x.minutes(0, 0, 15), 900);
        due("round", x.round(0, 9), 840);
        due("sum", x.sum(0), 840 * 990);
        due("worst", x.worst(0), 840);
        due("best", x.best(0, 0), 840 * 990);
        due("pair", x.pair(0), 840);
        due("total(0, 0)", x.total(0, 0), 60 * 1920);
        due("total(0, 1)", x.total(0, 1), 900);
        due("ring", x.ring(0, 15), 960);
        due("load", x.load(0, 14), 990);
        due("load", x.load(0, 15), 0);
        due("fire", x.fire(0, 15), 900);
        due("reach, one minute too few", x.reach(0, 899), 0x7fff);
        due("reach", x.reach(0, 900), 0xffff);
        due("arrive", x.arrive(0, 1439, 0), 2339);
        due("gone, the last", x.gone(0, 9, 14), 14);
        due("spare", x.spare(0, 1), 899 * 990);
        due("from", x.spared(0), 0);
        due("to", x.spared(1), 15);
        due("better, the RING", x.better(0), 1);
        due("sum", x.sum(0), 0);
        due("sumBack", x.sumBack(0), 840 * 990);
        StringBuilder row = new StringBuilder("corners16;");
        for (int c = 0; c < 15; c++) {
            row.append("alley").append(c).append(' ').append(c + 1).append("min60told against;");
        }
        x = TestKit.town(row + "house15;");
        due("against all of a row", x.fire(0, 0), 1800);
        due("the last", x.lastFire(0), 0);
        due("reach, one minute too few", x.reach(0, 1799), 0xfffe);
        due("reach", x.reach(0, 1800), 0xffff);
    }

    /** "minutes by the GIVING, less those if all ALLEYS were BOTH (told ones, too)". */
    private static void rounds() {
        OneWays x = given("alley 0 1 min 2; alley 0 1 min 3 told; alley 1 0 min 60; journey 0 1 carts 1; journey 1 0 carts 99;", 1, 1, 1);
        due("nothing more", x.round(0, 0), 0);
        due("more by 58", x.round(0, 1), 58);
        due("sum", x.sum(0), 58 * 99);
        due("worst", x.worst(0), 58);
        due("journey(1, 3)", x.journey(1, 3), 2);
        x.give(0, 2, 2);
        due("can't be gone", x.round(0, 1), -1);
        due("can be gone", x.round(0, 0), 0);
        due("sum", x.sum(0), -1);
        due("worst", x.worst(0), -1);
        due("sumBack", x.sumBack(0), -1);
        x = given("alley 0 1 min 2 told; journey 1 0 carts 5;");
        due("told, against it", x.round(0, 0), -1);
        due("if all were BOTH", x.journey(0, 3), 2);
    }

    // ---- IV

    /** "those with the least number; of several the first, ALLEY by ALLEY". */
    private static void best() {
        OneWays x = TestKit.town("alley 0 1 min 1; alley 0 1 min 1;");
        due("best of several", x.best(0, 0), 0);
        dueWays("the first", x, 0, 1, 2);
        due("best of several", x.best(1, 1), 0);
        dueWays("the first", x, 1, 1, 2);
        x = TestKit.town("alley 0 1 min 1; alley 0 1 min 9; journey 1 0 carts 1;");
        due("a later one is better", x.best(0, 0), 0);
        dueWays("a later one", x, 0, 2, 1);
        x = TestKit.town("alley 0 1 min 1; alley 0 1 min 2; journey 1 0 carts 1;");
        due("better by one", x.best(0, 0), 0);
        dueWays("better by one", x, 0, 2, 1);
        due("better by one", x.best(1, 1), 0);
        dueWays("better by one", x, 1, 2, 1);
        x = TestKit.town("alley 0 1 min 1; alley 0 1 min 9; journey 1 0 carts 1; journey 0 1 carts 1;");
        due("as good", x.best(0, 0), 8);
        dueWays("the first", x, 0, 1, 2);
        due("as good", x.best(1, 1), 8);
        dueWays("the first", x, 1, 1, 2);
        x = TestKit.town("alley 0 1 min 1; alley 0 1 min 9; journey 1 0 carts 2; journey 0 1 carts 1;");
        due("more carts", x.best(0, 0), 8);
        dueWays("more carts", x, 0, 2, 1);
        due("carts do not count for the greatest ROUND", x.best(1, 1), 8);
        dueWays("the first", x, 1, 1, 2);
    }

    /** "the first ALLEY .. such that, if it is turned (1 for 2, 2 for 1), it is WHOLE and the SUM is less, is turned". */
    private static void firstOneIsTurned() {
        String text = "alley 0 1 min 1 told; alley 0 1 min 5; alley 0 1 min 2; alley 1 0 min 9; journey 1 0 carts 1;";
        OneWays x = given(text, 1, 1, 1, 1);
        due("not the best one, the first", x.better(0), 2);
        dueWays("turned", x, 0, 1, 2, 2, 1);
        due("ended", x.ended(0), 1);
        x = given(text, 1, 1, 1, 1);
        due("ended", x.ended(0), 0);
        x = given("alley 0 1 min 1 told; alley 0 1 min 9; alley 1 0 min 9; journey 1 0 carts 1;", 1, 1, 1);
        due("the SUM would be the same", x.better(0), 0);
        due("ended", x.ended(0), 1);
        x = given("alley 0 1 min 1; alley 1 0 min 9; journey 1 0 carts 1; journey 0 1 carts 1;", 1, 1);
        due("the SUM would be the same", x.better(0), 0);
        x = given("alley 0 1 min 1 price 3; alley 1 0 min 9; alley 1 0 min 3; journey 1 0 carts 1; journey 0 1 carts 1;", 3, 1, 1);
        due("BOTH is not turned", x.better(0), 0);
        x = given("alley 0 1 min 1 told; alley 1 0 min 9; journey 1 0 carts 1;", 1, 1);
        due("told is not turned", x.better(0), 0);
        x = given("alley 0 1 min 1; alley 0 1 min 1;", 1, 2);
        due("no JOURNEYS", x.better(0), 0);
        due("no JOURNEYS", x.ended(0), 1);
        due("no ALLEYS", new OneWays().better(0), -5);
        due("no ALLEYS", new OneWays().ended(0), -5);
    }

    /** "without one the first pair". */
    private static void oneAheadOfPairs() {
        // Turned both, 0 and 1 spare as much as 2 alone does.
        OneWays x = given("corners 3; alley 0 2 min 1; alley 2 1 min 1; alley 0 1 min 2; alley 1 0 min 9 told; journey 1 0 carts 1;",
                1, 1, 1, 1);
        due("one, though a pair would do", x.better(0), 1);
        dueWays("one", x, 0, 1, 1, 2, 1);
        x = given("alley 0 1 min 9; alley 0 1 min 1; alley 1 0 min 1; journey 0 1 carts 1;", 1, 2, 1);
        due("the first of two", x.better(0), 1);
        dueWays("the first of two", x, 0, 1, 1, 1);
    }

    /** "without one the RING". */
    private static void pairsAheadOfRings() {
        OneWays x = given("corners 4; alley 0 1 min 5; alley 1 2 min 5; alley 2 3 min 5; alley 3 0 min 5; alley 0 2 min 3;"
                + "journey 0 2 carts 3; journey 1 0 carts 2;", 1, 1, 1, 1, 1);
        due("a pair, though the RING would do", x.better(0), 1);
        dueWays("a pair", x, 0, 2, 2, 1, 1, 1);
        x = given("corners 3; alley 0 1 min 5; alley 0 2 min 5; alley 2 0 min 1; alley 1 0 min 1; journey 0 1 carts 1; journey 0 2 carts 1;",
                1, 1, 1, 1);
        due("two pairs", x.better(0), 2);
        dueWays("two pairs", x, 0, 2, 2, 2, 2);
    }

    /** "the RING of the first ALLEY that goes one way by which, all its ALLEYS turned (each such a one), that is so". */
    private static void ringsTurned() {
        String ring = "corners 4; alley 0 1 min 1; alley 1 2 min 1; alley 2 3 min 1 price 0; alley 3 0 min 1; journey 1 0 carts 1;";
        OneWays x = given(ring, 1, 1, 1, 1);
        due("ended", x.ended(0), 0);
        due("the RING", x.better(0), 1);
        dueWays("the RING", x, 0, 2, 2, 2, 2);
        x = given(ring, 1, 1, 3, 1);
        due("one of it is BOTH", x.better(0), 0);
        due("one of it is BOTH", x.ended(0), 1);
        dueWays("it stays", x, 0, 1, 1, 3, 1);
        x = given(ring.replace("price 0", "told"), 1, 1, 1, 1);
        due("one of it is told", x.better(0), 0);
        due("one of it is told", x.ended(0), 1);
        x = given(ring.replace("journey 1 0", "journey 0 1"), 1, 1, 1, 1);
        due("the SUM would be more", x.better(0), 0);
        x = given(ring.replace("journey 1 0", "journey 0 2"), 1, 1, 1, 1);
        due("the SUM would be the same", x.better(0), 0);
        x = given(TRIANGLE + "journey 2 1 carts 1;", 2, 2, 2);
        due("as it goes, from B to A", x.better(0), 0);
        x = given(TRIANGLE + "journey 1 2 carts 1;", 2, 2, 2);
        due("as it goes, from B to A", x.better(0), 1);
        dueWays("turned", x, 0, 1, 1, 1);
        x = given("corners 5; alley 0 1 min 1; alley 1 2 min 1; alley 2 0 min 1; alley 0 3 min 1; alley 3 4 min 1; alley 4 0 min 1;"
                + "journey 3 0 carts 1;", 1, 1, 1, 1, 1, 1);
        due("not the first RING, the first that betters", x.better(0), 1);
        dueWays("the second RING", x, 0, 1, 1, 1, 2, 2, 2);
        x = given("corners 5; alley 0 1 min 1 told; alley 1 2 min 1 told; alley 2 0 min 1 told; alley 0 3 min 1; alley 3 4 min 1;"
                + "alley 4 0 min 1; journey 3 0 carts 1; journey 0 1 carts 1;", 1, 1, 1, 1, 1, 1);
        due("wherever JOURNEYS go", x.better(0), 1);
        dueWays("the second RING", x, 0, 1, 1, 1, 2, 2, 2);
        // Only the RING of ALLEY 0 goes by it, those of the others go by ALLEY 3.
        x = given("corners 3; alley 0 1 min 2; alley 1 2 min 5; alley 2 0 min 5; alley 0 1 min 1; journey 0 2 carts 1;", 1, 1, 1, 1);
        due("of two that better the first", x.better(0), 1);
        dueWays("the RING of ALLEY 0", x, 0, 2, 2, 2, 1);
    }

    /** "RING of an ALLEY: it, as it goes (from A to B, if both ways), and from its end back to its beginning". */
    private static void ringsOfAll() {
        String text = "alley 0 1 min 9 price 0; alley 0 1 min 4 price 0; alley 1 0 min 30;";
        int[][] want = {{0, 0, 1, 13}, {1, 0, 1, 13}, {2, 0, 1, 13}, {3, 0, 1, 13}, {1, 1, 1, 39}, {2, 1, 1, 13}, {2, 2, 1, -1},
            {3, 2, 1, 13}, {3, 1, 1, 18}};
        for (int[] w : want) {
            OneWays x = given(text, w[0], w[1], w[2]);
            due("ring, ways " + w[0] + " " + w[1], x.ring(0, 0), w[3]);
        }
        due("the way back by itself", given("alley 0 1 min 9 price 0;", 3).ring(0, 0), 18);
        due("no way back", given("alley 0 1 min 9;", 2).ring(0, 0), -1);
    }

    /** pair: "the greatest minutes more than if all were BOTH"; "of several the least from, then to". */
    private static void pairsOfCorners() {
        OneWays x = given(TRIANGLE, 1, 1, 1);
        due("pair", x.pair(0), 1);
        due("the least from", x.paired(0), 0);
        due("to", x.paired(1), 2);
        x.give(0, 0, 2);
        x.give(0, 1, 2);
        x.give(0, 2, 2);
        due("pair", x.pair(0), 1);
        due("the least from", x.paired(0), 0);
        due("to", x.paired(1), 1);
        due("two CORNERS", given("alley 0 1 min 3; alley 1 0 min 9;", 1, 1).pair(0), 6);
        x = given("alley 0 1 min 3; alley 1 0 min 9;", 1, 1);
        due("total", x.total(0, 0), 12);
        due("the greatest", x.total(0, 1), 9);
        due("pair", x.pair(0), 6);
        due("from", x.paired(0), 1);
        due("to", x.paired(1), 0);
        x = given("corners 4; alley 0 1 min 1; alley 2 3 min 1;");
        due("not WHOLE", x.pair(0), -1);
        due("not WHOLE", x.total(0, 1), -1);
    }

    // ---- V

    /** "those by which the SUM is the least; of several the least price". */
    private static void coinByPrice() {
        String text = "alley 0 1 min 1 told; alley 1 0 min 9 told; alley 0 1 min 4 price 7; alley 0 1 min 4 price 6; alley 0 1 min 3 price 9;"
                + "journey 1 0 carts 1;";
        int[][] want = {{0, 8, 0}, {5, 8, 0}, {6, 3, 6}, {7, 3, 6}, {8, 3, 6}, {9, 2, 9}, {22, 2, 9}, {9999, 2, 9}};
        for (int[] w : want) {
            OneWays x = given(text, 1, 1, 1, 1, 1);
            due("coin(0, " + w[0] + ")", x.coin(0, w[0]), w[1]);
            due("paid", x.paid(0), w[2]);
            due("the SUM then", x.sum(0), w[1]);
        }
        OneWays x = given(text, 1, 1, 1, 1, 1);
        due("next(0, 0)", x.next(0, 0), 6);
        due("next(0, 5)", x.next(0, 5), 6);
        due("next(0, 6)", x.next(0, 6), 9);
        due("next(0, 8)", x.next(0, 8), 9);
        due("next(0, 9)", x.next(0, 9), -1);
        dueWays("next spends nothing", x, 0, 1, 1, 1, 1, 1);
    }

    /** "then the first by numbers (as a row of numbers, one that ends ahead)". */
    private static void coinByNumbers() {
        String text = "alley 0 1 min 4 price 7; alley 0 1 min 4 price 7; alley 0 1 min 9 price 0; alley 1 0 min 9 told; journey 1 0 carts 1;";
        OneWays x = given(text, 1, 1, 1, 1);
        due("coin", x.coin(0, 14), 0);
        dueWays("the first by numbers, and a row that ends is ahead", x, 0, 3, 1, 1, 1);
        x = given(text, 1, 1, 1, 1);
        due("coin", x.coin(0, 6), 5);
        dueWays("a row of none ends first", x, 0, 1, 1, 1, 1);
        x = given("alley 0 1 min 9 price 0; alley 0 1 min 1 price 2; alley 1 0 min 9 told; journey 1 0 carts 1;", 1, 1, 1);
        due("coin", x.coin(0, 2), 0);
        dueWays("0 with 1 is ahead of 1", x, 0, 3, 3, 1);
        x = given("alley 0 1 min 9 price 0; alley 0 1 min 1 price 2; alley 0 1 min 9 price 0; alley 1 0 min 9 told; journey 1 0 carts 1;", 1, 1, 1, 1);
        due("coin", x.coin(0, 2), 0);
        dueWays("0 with 1 is ahead of 0 with 1 and 2", x, 0, 3, 3, 1, 1);
    }

    /** "of the ALLEYS that go one way, have a price and are not told (the first nine)". */
    private static void theFirstNine() {
        String others = "alley 0 1 min 9 price 1 told;".repeat(3) + "alley 0 1 min 9;".repeat(3) + "alley 0 1 min 9 price 1;".repeat(3);
        OneWays x = given(others + "alley 0 1 min 2 price 1; journey 1 0 carts 1;", 1, 1, 1, 1, 1, 1, 3, 3, 3, 1);
        due("nine others are none of the nine", x.coin(0, 1), 0);
        due("BOTH", x.way(0, 9), 3);
        for (int ahead = 7; ahead <= 9; ahead++) {
            x = given("alley 1 0 min 30 told;" + "alley 0 1 min 30 price 1;".repeat(ahead) + "alley 0 1 min 2 price 1; journey 1 0 carts 1;",
                    1, 1, 1, 1, 1, 1, 1, 1, 1, 1, 1);
            due("next behind " + ahead, x.next(0, 0), ahead < 9 ? 1 : -1);
            due("coin behind " + ahead, x.coin(0, 9999), ahead < 9 ? 0 : 28);
        }
    }

    // ---- VI

    /** "it may also go against an ALLEY that is told so, in twice its minutes". */
    private static void engine() {
        int[][] want = {{0, 7, 7}, {1, 7, -1}, {2, -1, 7}, {3, 7, 7}};
        for (int[] w : want) {
            OneWays x = given("alley 0 1 min 7 price 0; house 0;", w[0]);
            due("not told so, way " + w[0], x.fire(0, 1), w[1]);
            x = given("alley 0 1 min 7 price 0; house 1;", w[0]);
            due("not told so, way " + w[0], x.fire(0, 0), w[2]);
            x = given("alley 0 1 min 7 price 0 against; house 0;", w[0]);
            due("told so, way " + w[0], x.fire(0, 1), w[1] < 0 ? 14 : 7);
            x = given("alley 0 1 min 7 price 0 against; house 1;", w[0]);
            due("told so, way " + w[0], x.fire(0, 0), w[2] < 0 ? 14 : 7);
        }
        OneWays x = given("alley 1 0 min 7 told against; alley 0 1 min 14; house 0;", 1, 1);
        due("as long", x.fire(0, 1), 14);
        x = given("alley 1 0 min 7 told against; alley 0 1 min 13; house 0;", 1, 1);
        due("not against", x.fire(0, 1), 13);
        x = given("alley 1 0 min 7 told against; alley 0 1 min 15; house 0;", 1, 1);
        due("against", x.fire(0, 1), 14);
        due("others may not", x.minutes(0, 0, 1), 15);
        due("reach, one too few", x.reach(0, 13), 1);
        due("reach, or fewer", x.reach(0, 14), 3);
    }

    /** "at each CORNER, if it is there ahead of NOON, by GIVING 0, else by GIVING 1, the first ALLEY (by numbers) ..". */
    private static void overNoon() {
        OneWays x = given("corners 3; alley 0 1 min 5; alley 1 2 min 5; alley 0 2 min 20; journey 0 2 carts 1;", 1, 1, 1);
        x.give(1, 0, 2);
        x.give(1, 1, 2);
        x.give(1, 2, 1);
        due("all ahead of NOON", x.arrive(0, 0, 1439), 10);
        due("one minute ahead of NOON at 1", x.arrive(0, 0, 6), 10);
        due("at NOON at 1, and back", x.arrive(0, 0, 5), 30);
        due("behind NOON at 1, and back", x.arrive(0, 0, 1), 30);
        due("at NOON at 0", x.arrive(0, 0, 0), 20);
        x.give(1, 2, 2);
        due("it can't go on", x.arrive(0, 0, 5), -1);
        due("it can ahead of NOON", x.arrive(0, 0, 6), 10);
        due("it can't begin", x.arrive(0, 7, 7), -1);
        // Of two ways as long the first ALLEY leads to 1, where NOON finds it: back over 0 and 2.
        x = given("corners 4; alley 0 1 min 2; alley 0 2 min 2; alley 1 3 min 2; alley 2 3 min 2; journey 0 3 carts 1;", 1, 1, 1, 1);
        x.give(1, 2, 2);
        due("the first by numbers", x.arrive(0, 0, 1), 8);
        due("gone", x.gone(0, 0, 0), 0);
        due("gone", x.gone(0, 0, 1), 2);
        due("gone", x.gone(0, 0, 2), -1);
        x = FullTown.given();
        for (int a = 0; a < 16; a++) {
            x.give(1, a, 2);
        }
        due("as far as it can, and all the way back", x.arrive(0, 0, 14), 14 + 15);
        due("all the way by GIVING 0", x.arrive(0, 0, 15), 15);
    }

    /** "no more than k ALLEYS that go one way and are not told are turned .. of several the fewest turned, then the first by numbers". */
    private static void afternoons() {
        String two = "alley 0 1 min 9; alley 1 0 min 1; journey 0 1 carts 1;";
        OneWays x = given(two, 2, 2);
        due("sumBack", x.sumBack(0), 8);
        due("k 0", x.afternoon(0), 0);
        dueWays("as GIVING 0", x, 1, 2, 2);
        due("k 1, not WHOLE", x.afternoon(1), 0);
        due("k 2", x.afternoon(2), 2);
        dueWays("both turned", x, 1, 1, 1);
        dueWays("GIVING 0 stays", x, 0, 2, 2);
        x = given("alley 0 1 min 9; alley 0 1 min 1; alley 0 1 min 1; alley 0 1 min 30 told; alley 0 1 min 1; journey 0 1 carts 1;", 2, 1, 1, 1, 1);
        due("the fewest", x.afternoon(2), 1);
        dueWays("the first by numbers", x, 1, 2, 2, 1, 1, 1);
        due("k 0", x.afternoon(0), 0);
        dueWays("k 0", x, 1, 2, 1, 1, 1, 1);
        due("k 1", x.afternoon(1), 1);
        dueWays("k 1", x, 1, 2, 2, 1, 1, 1);
        x = given("alley 0 1 min 1; alley 0 1 min 9 told; alley 1 0 min 9; journey 0 1 carts 1;", 1, 1, 1);
        due("ALLEY 0", x.afternoon(1), 1);
        dueWays("ALLEY 0", x, 1, 2, 1, 1);
        x = given("corners 3; alley 0 2 min 1; alley 0 1 min 9; alley 1 0 min 1; alley 2 0 min 1; journey 0 1 carts 1;", 1, 2, 2, 1);
        due("a pair without ALLEY 0", x.afternoon(2), 2);
        dueWays("a pair without ALLEY 0", x, 1, 1, 1, 1, 1);
        x = given("alley 0 1 min 9; alley 0 1 min 1 told; alley 0 1 min 9 price 0; journey 0 1 carts 1;", 2, 1, 3);
        due("told ones, and those that are BOTH", x.afternoon(2), 0);
        dueWays("stay", x, 1, 2, 1, 3);
        x = given(two.replace("journey 0 1 carts 1;", ""), 2, 2);
        due("no JOURNEYS", x.afternoon(2), 0);
        x = given(two, 2, 2);
        x.give(1, 0, 1);
        x.give(1, 1, 2);
        due("whatever GIVING 1 is", x.afternoon(2), 2);
        x.give(0, 0, 0);
        due("OPEN", x.afternoon(2), -5);
        x.give(0, 0, 1);
        due("not WHOLE", x.afternoon(2), -5);
    }

    /** "A CORNER with shut MOUTHS needs one SIGN if just one MOUTH is not shut, else one for each that is shut." */
    private static void signs() {
        String star = "corners 4; alley 0 1 min 1 price 0; alley 0 2 min 1; alley 0 3 min 1;";
        int[][] want = {{0, 0, 0, 0}, {1, 1, 1, 3}, {2, 2, 2, 3}, {1, 2, 2, 2}, {1, 1, 2, 3}, {0, 2, 2, 1}, {3, 2, 2, 1}, {0, 0, 2, 1},
            {3, 0, 0, 0}, {0, 0, 1, 1}};
        for (int[] w : want) {
            due("signs of " + w[0] + w[1] + w[2], given(star, w[0], w[1], w[2]).signs(0), w[3]);
        }
        due("no ALLEYS", new OneWays().signs(0), 0);
        due("28 shut MOUTHS at one CORNER", given("alley 0 1 min 1 told;".repeat(28)).signs(0), 28);
        due("one of 28 not shut", given("alley 0 1 min 1 told;".repeat(27) + "alley 1 0 min 1 told;").signs(0), 2);
    }

    /** "but for the one by which they came; that one, if there is no other; they stand without any". */
    private static void walks() {
        OneWays x = given("corners 3; alley 0 1 min 1; alley 1 2 min 1;");
        int[] to = {0, 1, 2, 1, 0, 1, 2};
        for (int n = 0; n < to.length; n++) {
            due("walk(0, 0, " + n + ")", x.walk(0, 0, n), to[n]);
        }
        x = given("corners 3; alley 0 1 min 1; alley 1 2 min 1;", 0, 1);
        due("that one is shut", x.walk(0, 0, 3), 2);
        due("they stand", x.walk(0, 2, 100), 2);
        x = given("alley 0 1 min 1; alley 0 1 min 1;");
        due("another one that joins the same", x.walk(0, 0, 2), 0);
        x = given("alley 0 1 min 1; alley 0 1 min 1; alley 0 1 min 1;", 0, 1, 1);
        due("that one, if there is no other", x.walk(0, 0, 2), 0);
        x = given("corners 3; alley 1 2 min 1; alley 0 1 min 1; alley 1 2 min 1;");
        due("the first by numbers", x.walk(0, 0, 2), 2);
        due("the first but for that", x.walk(0, 0, 3), 1);
        due("the first but for that", x.walk(0, 0, 4), 2);
    }

    // ---- promises 23, 24, 40, 46

    private static void streetsAndGrid() {
        OneWays x = TestKit.town("alley 0 1min1price0;".repeat(12) + "street0 1;street2 3;street4 5;street6 7;street8 9;street10 11;");
        due("all OPEN", x.alike(0), 0);
        for (int s = 0; s < 6; s++) {
            x.clear(0);
            x.give(0, 2 * s + 1, 1);
            due("STREET " + s, x.alike(0), 1 << s);
            x.give(0, 2 * s, 2);
            due("STREET " + s, x.alike(0), 1 << s);
            x.give(0, 2 * s, 1);
            due("STREET " + s, x.alike(0), 0);
            x.give(0, 2 * s, 3);
            due("STREET " + s, x.alike(0), 1 << s);
            x.give(0, 2 * s + 1, 3);
            due("STREET " + s, x.alike(0), 0);
        }
        for (int s = 0; s < 6; s++) {
            x.give(0, 2 * s, 1);
            x.give(0, 2 * s + 1, 2);
        }
        due("all STREETS", x.alike(0), 63);
        x = TestKit.town("alley 0 1 min 1;".repeat(6) + "street 0 1 2 3 4 5;");
        x.give(0, 5, 1);
        due("the sixth is otherwise", x.alike(0), 1);
        for (int wide = 2; wide <= 4; wide++) {
            for (int high = 2; high <= 4; high++) {
                grid(wide, high);
            }
        }
        due("no GRID, but CORNERS", TestKit.town("corners 4; alley 0 1 min 1;").known(0), -6);
    }

    /** "rows from left to right for even y, back for odd; columns down for even x, up for odd". */
    private static void grid(int wide, int high) {
        OneWays x = TestKit.town("grid " + wide + " by " + high + " min 2; alley 0 1 min 9;");
        int all = (wide - 1) * high + wide * (high - 1);
        x.give(0, 0, 2);
        due("known", x.known(0), all);
        for (int y = 0; y < high; y++) {
            for (int i = 0; i < wide - 1; i++) {
                due("row " + y, x.way(0, y * (wide - 1) + i), 1 + y % 2);
            }
        }
        for (int i = 0; i < wide; i++) {
            for (int y = 0; y < high - 1; y++) {
                due("column " + i, x.way(0, high * (wide - 1) + i * (high - 1) + y), 1 + i % 2);
            }
        }
        due("the one behind it stays", x.way(0, all), 0);
        due("GIVING 1 stays", x.count(7), all + 1);
        due("known again", x.known(0), all);
    }

    /** "ALLEYS that both GIVINGS have otherwise." */
    private static void changes() {
        OneWays x = TestKit.town("alley 0 1 min 1;".repeat(28));
        due("none", x.change(), 0);
        for (int a = 0; a < 28; a++) {
            x.give(0, a, 1 + a % 2);
            due("change", x.change(), a + 1);
        }
        for (int a = 0; a < 28; a++) {
            x.give(1, a, 1 + a % 2);
        }
        due("none", x.change(), 0);
        due("no ALLEYS", new OneWays().change(), 0);
    }

    /** "What a new ALLEY .. BOTH, between two CORNERS would spare of the SUM at most." */
    private static void spares() {
        OneWays x = given("corners 3; alley 0 1 min 9; alley 1 2 min 9; journey 0 2 carts 2; journey 2 0 carts 1;");
        due("both ways", x.spare(0, 8), 30);
        due("from", x.spared(0), 0);
        due("to", x.spared(1), 2);
        due("as long as the way", x.spare(0, 18), 0);
        due("the first pair", x.spared(0), 0);
        due("the first pair", x.spared(1), 1);
        due("one minute less", x.spare(0, 17), 3);
        due("to", x.spared(1), 2);
        x.give(0, 0, 1);
        x.give(0, 1, 1);
        due("a JOURNEY can't be gone", x.spare(0, 1), -5);
        due("back it can't, but there", TestKit.town("alley 0 1 min 9 told; journey 0 1 carts 1;").spare(0, 7), 2);
        due("there it can't, but back", TestKit.town("alley 0 1 min 9 told; journey 1 0 carts 1;").spare(0, 7), -5);
        due("not WHOLE", TestKit.town("corners 3; alley 0 1 min 9 told; journey 0 1 carts 1;").spare(0, 3), 6);
    }
}
