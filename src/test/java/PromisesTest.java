/** Each promise by hand: ordinary inputs, the edges that the document names, and wrong inputs. */
public final class PromisesTest {
    private static final int NOTHING = -2000000000;
    /** A ring of four CORNERS with a short cut from 0 to 2 that has a price. */
    private static final String RING = "corners 4; alley 0 1 min 5; alley 1 2 min 5; alley 2 3 min 5; alley 3 0 min 5 against;"
            + " alley 0 2 min 3 price 5; journey 0 2 carts 3; journey 1 0 carts 2; house 0;";
    /** Three CORNERS in a row: each ALLEY bars. */
    private static final String ROW = "corners 3; alley 0 1 min 1; alley 1 2 min 1;";

    public static void main(String[] args) {
        tape();
        texts();
        faults();
        giving();
        givingByRow();
        wholeness();
        shown();
        forcedOnes();
        roundsAndSums();
        bestOnes();
        betterOnes();
        streetsAndGrid();
        rings();
        pairs();
        coins();
        engine();
        overNoon();
        afternoons();
        walks();
        signs();
        loads();
        judged();
        spares();
        facts();
        images();
        rows();
        pastes();
        TestKit.finish();
    }

    private static void due(String call, long got, long want) {
        TestKit.due(call, got, want);
    }

    private static void dueWays(String call, OneWays x, int g, int... want) {
        for (int a = 0; a < want.length; a++) {
            due(call + ", way(" + g + ", " + a + ")", x.way(g, a), want[a]);
        }
    }

    private static OneWays shownRing() {
        OneWays x = TestKit.town(RING);
        x.show(0);
        return x;
    }

    /** Promises 1, 2, 3. */
    private static void tape() {
        OneWays x = new OneWays();
        int[] counts = {0, 2, 0, 0, 0, 0, 0, 0, -1, 0, 0, 0};
        for (int what = 0; what < counts.length; what++) {
            due("new, count(" + what + ")", x.count(what), counts[what]);
        }
        for (int n = 20; n <= 800; n += 20) {
            due("feed", x.feed(1, 2, 3, 4, 5), n);
        }
        due("feed beyond", x.feed(1, 2, 3, 4, 5), -1);
        due("count(5)", x.count(5), 800);
        due("end(801)", x.end(801), -1);
        due("end(-1)", x.end(-1), -1);
        due("end(min)", x.end(Integer.MIN_VALUE), -1);
        due("end(max)", x.end(Integer.MAX_VALUE), -1);
        due("count(5)", x.count(5), 800);
        due("end(800)", x.end(800), 800);
        due("end(781)", x.end(781), 781);
        due("feed over 800", x.feed(1, 2, 3, 4, 5), -1);
        due("count(5)", x.count(5), 781);
        due("end(780)", x.end(780), 780);
        due("feed to 800", x.feed(1, 2, 3, 4, 5), 800);
        due("end(0)", x.end(0), 0);
        due("feed, the highest byte first", x.feed(0x686f7573, 0x6520313b, 0x20202020, 0x0a0a0a0a, 0x20202020), 20);
        due("text()", x.text(), 1);
        due("count(8)", x.count(8), 1);
        due("feed, high bytes", x.feed(-1, 0, 0, 0, 0), 20);
        due("text()", x.text(), -4);
        due("fault(0)", x.fault(0), 1);
        due("fault(1)", x.fault(1), 0);
        due("end(0)", x.end(0), 0);
        x.feed(0x686f7573, 0x65203020, 0x20202020, 0x20202020, 0x203b3b3b);
        due("end(17)", x.end(17), 17);
        due("cut off text()", x.text(), -4);
        due("fault(1)", x.fault(1), 17);
    }

    /** Promise 4. */
    private static void texts() {
        OneWays x = TestKit.town(RING);
        due("count(0)", x.count(0), 9);
        due("count(5), the TAPE is empty", x.count(5), 0);
        x.give(0, 0, 1);
        x.give(1, 1, 2);
        TestKit.feed(x, "corners 5; house 5;");
        due("a FAULT", x.text(), -4);
        due("all stays, count(0)", x.count(0), 9);
        due("all stays, count(1)", x.count(1), 4);
        due("all stays, the TAPE too", x.count(5), 19);
        due("all stays, way(0, 0)", x.way(0, 0), 1);
        due("all stays, way(1, 1)", x.way(1, 1), 2);
        due("all stays, minutes(0, 1, 0)", x.minutes(0, 1, 0), 8);
        due("again", x.text(), -4);
        due("cut to its first LINE", x.end(10), 10);
        due("text()", x.text(), 1);
        due("count(1)", x.count(1), 5);
        due("count(2)", x.count(2), 0);
        due("count(3)", x.count(3), 0);
        due("count(8)", x.count(8), -1);
        due("tell", TestKit.tell(x, "alley 0 1 min 1; alley 0 1 min 1 told; alley 1 0 min 1 price 3;"), 3);
        x.give(0, 2, 3);
        due("tell the same", TestKit.tell(x, "alley 0 1 min 1; alley 0 1 min 1 told; alley 1 0 min 1 price 3;"), 3);
        dueWays("empty but for what is told", x, 0, 0, 1, 0);
        dueWays("empty but for what is told", x, 1, 0, 1, 0);
        due("no blank needed", TestKit.tell(x, "corners3;alley0 1min5price7told against;journey2 0carts9;house2;"), 4);
        due("alley(0, 3)", x.alley(0, 3), 7);
        due("blanks alone", TestKit.tell(x, " \n "), 0);
        due("count(1)", x.count(1), 2);
        due("count(0)", x.count(0), 0);
        due("empty text", x.text(), 0);
    }

    private static void dueFault(String text, int fault, int place) {
        OneWays x = new OneWays();
        int got = TestKit.tell(x, text);
        if (fault == 0) {
            due("text() of " + text, got < 0 ? -1 : 0, 0);
        } else {
            due("text() of " + text, got, -4);
        }
        due("fault(0) of " + text, x.fault(0), fault);
        due("fault(1) of " + text, x.fault(1), place);
    }

    /** Promise 5. */
    private static void faults() {
        OneWays x = new OneWays();
        due("ahead of any, fault(0)", x.fault(0), 0);
        due("ahead of any, fault(1)", x.fault(1), -1);
        due("fault(2)", x.fault(2), -1);
        due("fault(-1)", x.fault(-1), -1);
        TestKit.tell(x, "corners 1;");
        due("fault(0)", x.fault(0), 2);
        due("fault(1)", x.fault(1), 8);
        due("fault(2)", x.fault(2), -1);
        TestKit.tell(x, "corners 2;");
        due("the latest, fault(0)", x.fault(0), 0);
        due("the latest, fault(1)", x.fault(1), -1);

        dueFault("corners 16;", 0, -1);
        dueFault("corners 17;", 2, 8);
        dueFault("corners 99999999999999999999;", 2, 8);
        dueFault("corners 0000000000000000000000000002;", 0, -1);
        dueFault("corners 4", 1, 9);
        dueFault("corners 4 \n", 1, 11);
        dueFault("corners;", 1, 7);
        dueFault("corner 4;", 1, 0);
        dueFault("cornersz 4;", 1, 0);
        dueFault("borners 4;", 1, 0);
        dueFault("corners 3; corners 3;", 1, 11);
        dueFault("house 0; grid 2 by 2 min 1;", 1, 9);
        dueFault(";", 1, 0);
        dueFault("7;", 1, 0);
        dueFault("corners 3;;", 1, 10);
        dueFault("corners 3 4;", 1, 10);
        dueFault("corners\t3;", 1, 7);
        dueFault("Corners 3;", 1, 0);
        dueFault("corners -3;", 1, 8);
        dueFault("alley 0 2 min 5;", 2, 8);
        dueFault("alley 2 0 min 5;", 2, 6);
        dueFault("alley 0 0 min 5;", 2, 8);
        dueFault("alley 0 1 min 0;", 2, 14);
        dueFault("alley 0 1 min 1;", 0, -1);
        dueFault("alley 0 1 min 60;", 0, -1);
        dueFault("alley 0 1 min 61;", 2, 14);
        dueFault("alley 0 1 min 5 price 0;", 0, -1);
        dueFault("alley 0 1 min 5 price 999;", 0, -1);
        dueFault("alley 0 1 min 5 price 1000;", 2, 22);
        dueFault("alley 0 1 min 5 told price 3;", 1, 21);
        dueFault("alley 0 1 min 5 against told;", 1, 24);
        dueFault("alley 0 1 min 5 told told;", 1, 21);
        dueFault("alley 0 1 5;", 1, 10);
        dueFault("journey 0 1 carts 0;", 2, 18);
        dueFault("journey 0 1 carts 1;", 0, -1);
        dueFault("journey 0 1 carts 99;", 0, -1);
        dueFault("journey 0 1 carts 100;", 2, 18);
        dueFault("journey 1 1 carts 1;", 2, 10);
        dueFault("house 2;", 2, 6);
        dueFault("house 0; house 1;", 3, 9);
        dueFault("grid 1 by 2 min 3;", 2, 5);
        dueFault("grid 2 by 5 min 3;", 2, 10);
        dueFault("grid 4 by 4 min 61;", 2, 16);
        dueFault("grid 4 by 4 min 60; alley 15 0 min 1;", 0, -1);
        dueFault("grid 2 by 2 min 1; alley 4 0 min 1;", 2, 25);
        streetFaults();
        dueFault("grid 4 by 4 min 1;" + "alley 0 1 min 1;".repeat(4), 0, -1);
        dueFault("grid 4 by 4 min 1;" + "alley 0 1 min 1;".repeat(4) + "alley x", 3, 82);
        dueFault("journey 0 1 carts 1;".repeat(10), 0, -1);
        dueFault("journey 0 1 carts 1;".repeat(11), 3, 200);
    }

    private static void streetFaults() {
        String grid = "grid 4 by 4 min 1;";
        dueFault(grid + "street 0 1;", 0, -1);
        dueFault(grid + "street 0;", 1, 26);
        dueFault(grid + "street 0 24;", 2, 27);
        dueFault(grid + "street 0 0;", 2, 27);
        dueFault(grid + "street 0 1;street 2 1;", 2, 38);
        dueFault(grid + "street 0 1 2 3 4 5;", 0, -1);
        dueFault(grid + "street 0 1 2 3 4 5 6;", 3, 37);
        dueFault(grid + "street 0 1 2 3 4 5 24;", 2, 37);
        dueFault(grid + "street 0 1 2 3 4 5 5;", 2, 37);
        dueFault(grid + "street 0 1 2 3 4 5 x;", 1, 37);
        String six = grid + "street 0 1;street 2 3;street 4 5;street 6 7;street 8 9;street 10 11;";
        dueFault(six, 0, -1);
        dueFault(six + "street 12 13;", 3, six.length());
    }

    /** Promises 6, 8, 9. */
    private static void giving() {
        OneWays x = TestKit.town("alley 0 1 min 1; alley 0 1 min 1 price 0; alley 1 0 min 1 told;");
        due("give", x.give(0, 0, 2), 0);
        due("give", x.give(0, 0, 1), 2);
        due("give", x.give(0, 0, 0), 1);
        due("give", x.give(0, 1, 3), 0);
        due("give", x.give(1, 1, 2), 0);
        due("BOTH without a price", x.give(0, 0, 3), -2);
        due("told", x.give(0, 2, 1), -2);
        due("told", x.give(0, 2, 0), -2);
        due("way 4", x.give(0, 1, 4), -2);
        due("way -1", x.give(0, 1, -1), -2);
        due("GIVING 2", x.give(2, 1, 1), -2);
        due("GIVING -1", x.give(-1, 1, 1), -2);
        due("ALLEY 3", x.give(0, 3, 1), -2);
        due("ALLEY -1", x.give(0, -1, 1), -2);
        dueWays("given", x, 0, 0, 3, 1);
        dueWays("given", x, 1, 0, 2, 1);
        due("way", x.way(2, 0), -1);
        due("way", x.way(-1, 0), -1);
        due("way", x.way(0, 3), -1);
        due("way", x.way(0, -1), -1);
        x.give(0, 0, 2);
        due("clear(0)", x.clear(0), 2);
        due("clear(0)", x.clear(0), 0);
        dueWays("cleared", x, 0, 0, 0, 1);
        due("the other one stays", x.way(1, 1), 2);
        due("clear(1)", x.clear(1), 1);
        due("clear(2)", x.clear(2), -2);
        due("clear(-1)", x.clear(-1), -2);
    }

    /** Promise 7. */
    private static void givingByRow() {
        OneWays x = TestKit.town("alley 0 1 min 1; alley 0 1 min 1 price 0; alley 1 0 min 1 told; alley 0 1 min 1;");
        due("no row", x.gives(0, 0), -6);
        due("no SLOT", x.gives(0, 4), -2);
        due("no SLOT", x.gives(0, -1), -2);
        due("no GIVING", x.gives(2, 0), -2);
        due("no GIVING ahead of no row", x.gives(-1, 0), -2);
        x.row(0, 0, 60);
        x.write(0, 0, 257);
        x.write(0, 1, 3);
        x.write(0, 2, 1);
        x.write(0, 3, 3);
        due("gives", x.gives(0, 0), 2);
        dueWays("gives", x, 0, 1, 3, 1, 0);
        x.row(1, 3, 2);
        x.write(1, 0, 1L << 32);
        x.write(1, 1, 2);
        due("a shorter row, a number of eight bytes", x.gives(0, 1), 1);
        dueWays("gives", x, 0, 1, 2, 1, 0);
        x.row(2, 1, 0);
        due("a row of none", x.gives(0, 2), 0);
    }

    /** Promises 10 to 13. */
    private static void wholeness() {
        OneWays x = TestKit.town(RING);
        due("whole(2)", x.whole(2), -2);
        due("whole(-1)", x.whole(-1), -2);
        due("can(2)", x.can(2), -2);
        due("bar(2)", x.bar(2), -2);
        due("cut(2)", x.cut(2), -2);
        due("whole", x.whole(0), 1);
        due("can", x.can(0), 1);
        due("bar", x.bar(0), -1);
        due("cut", x.cut(0), 0);
        x.give(0, 0, 1);
        x.give(0, 1, 2);
        due("no way out of 1", x.whole(0), 0);
        due("can", x.can(0), 0);
        due("bar", x.bar(0), -3);
        due("cut", x.cut(0), 2);
        due("the other GIVING", x.whole(1), 1);
        x = TestKit.town(ROW);
        due("whole row", x.whole(0), 1);
        due("can row", x.can(0), 0);
        due("bar row", x.bar(0), 0);
        x.give(0, 0, 1);
        due("cut row", x.cut(0), 6);
        x = TestKit.town("corners 3; alley 0 1 min 1; alley 1 0 min 1; alley 2 1 min 1 price 0;");
        due("of two that join the same, none bars", x.bar(0), 2);
        x.give(0, 2, 3);
        due("BOTH bars nothing", x.bar(0), -1);
        due("can", x.can(0), 1);
    }

    /** Promise 14. */
    private static void shown() {
        OneWays x = TestKit.town(RING);
        due("show(2)", x.show(2), -2);
        due("show", x.show(0), 5);
        dueWays("show", x, 0, 1, 1, 1, 1, 1);
        due("show again", x.show(0), 0);
        x.give(1, 1, 2);
        due("show", x.show(1), 4);
        dueWays("show", x, 1, 2, 2, 1, 1, 1);
        x = TestKit.town(ROW);
        due("show a row", x.show(0), -1);
        dueWays("nothing happens", x, 0, 0, 0);
    }

    /** Promises 15, 16. */
    private static void forcedOnes() {
        OneWays x = TestKit.town(RING);
        due("forced", x.forced(0), 0);
        due("forced(2)", x.forced(2), -2);
        x.give(0, 0, 1);
        due("forced", x.forced(0), 2);
        due("forcedWay", x.forcedWay(0, 1), 1);
        due("not forced", x.forcedWay(0, 2), 0);
        due("not OPEN", x.forcedWay(0, 0), 0);
        due("no ALLEY", x.forcedWay(0, 5), -1);
        due("no ALLEY", x.forcedWay(0, -1), -1);
        due("no GIVING", x.forcedWay(2, 0), -1);
        x.give(0, 0, 2);
        due("forcedWay", x.forcedWay(0, 1), 2);
        x = TestKit.town(ROW);
        due("forced in a row", x.forced(0), -1);
        due("forcedWay in a row", x.forcedWay(0, 0), 0);
    }

    /** Promises 17 to 20. */
    private static void roundsAndSums() {
        OneWays x = shownRing();
        due("minutes", x.minutes(0, 1, 0), 15);
        due("minutes", x.minutes(0, 0, 2), 3);
        due("minutes, OPEN", x.minutes(1, 1, 0), 5);
        due("minutes to itself", x.minutes(0, 2, 2), 0);
        due("minutes(2, ..)", x.minutes(2, 0, 1), -2);
        due("no CORNER", x.minutes(0, 4, 0), -2);
        due("no CORNER", x.minutes(0, 0, 4), -2);
        due("no CORNER", x.minutes(0, -1, 0), -2);
        due("no CORNER", x.minutes(0, 0, -1), -2);
        due("round", x.round(0, 0), 0);
        due("round", x.round(0, 1), 10);
        due("no JOURNEY", x.round(0, 2), -2);
        due("no JOURNEY", x.round(0, -1), -2);
        due("round(2, ..)", x.round(2, 0), -2);
        due("sum", x.sum(0), 20);
        due("sum, OPEN", x.sum(1), 0);
        due("worst", x.worst(0), 10);
        due("sum(-1)", x.sum(-1), -2);
        due("worst(2)", x.worst(2), -2);
        x.give(0, 3, 2);
        due("can't come", x.minutes(0, 1, 0), -1);
        due("can't be gone", x.round(0, 1), -1);
        due("can be gone", x.round(0, 0), 0);
        due("sum", x.sum(0), -1);
        due("worst", x.worst(0), -1);
        x = TestKit.town("alley 0 1 min 9; alley 0 1 min 4 told; journey 1 0 carts 2;");
        due("told ones are BOTH for the ROUND", x.round(0, 0), 5);
        due("no JOURNEYS", TestKit.town(ROW).worst(0), 0);
        due("no JOURNEYS", TestKit.town(ROW).sum(0), 0);
    }

    /** Promise 21. */
    private static void bestOnes() {
        OneWays x = TestKit.town(RING);
        due("best(2, 0)", x.best(2, 0), -2);
        due("best(0, 2)", x.best(0, 2), -2);
        due("best(0, -1)", x.best(0, -1), -2);
        due("best", x.best(0, 0), 0);
        dueWays("best", x, 0, 2, 2, 1, 1, 1);
        due("best again", x.best(0, 0), 0);
        x.give(1, 0, 1);
        // With 0 -> 1 -> 2 the SUM is least with 2 -> 0 barred (0, 20) or open (21, 6).
        due("best by SUM", x.best(1, 0), 20);
        dueWays("best by SUM", x, 1, 1, 1, 1, 1, 1);
        x.clear(1);
        x.give(1, 0, 1);
        due("best by the greatest", x.best(1, 1), 7);
        dueWays("best by the greatest", x, 1, 1, 1, 1, 1, 2);
        x = TestKit.town(ROW);
        due("can't be ended", x.best(0, 0), -1);
        dueWays("nothing happens", x, 0, 0, 0);
        x = TestKit.town("grid 3 by 3 min 1;");
        due("twelve are OPEN", x.best(0, 0), -3);
        x.give(0, 0, 1);
        due("eleven are OPEN", x.best(0, 0), -3);
        x.give(0, 1, 1);
        due("ten are OPEN", x.best(0, 0), 0);
        due("count(6)", x.count(6), 0);
        x = TestKit.town("corners 13; alley 0 1 min 1;" + "alley 1 2 min 1;".repeat(10));
        due("more than ten ahead of can't", x.best(0, 0), -3);
    }

    /** Promises 22, 26. */
    private static void betterOnes() {
        OneWays x = TestKit.town(RING);
        due("better(2)", x.better(2), -2);
        due("ended(2)", x.ended(2), -2);
        due("some OPEN", x.better(0), -5);
        due("some OPEN", x.ended(0), -5);
        x.show(0);
        due("ended", x.ended(0), 0);
        dueWays("ended turns nothing", x, 0, 1, 1, 1, 1, 1);
        due("better", x.better(0), 1);
        dueWays("a pair", x, 0, 2, 2, 1, 1, 1);
        due("ended", x.ended(0), 1);
        due("better", x.better(0), 0);
        due("sum", x.sum(0), 0);
        x.give(0, 0, 1);
        due("not WHOLE", x.better(0), -5);
        due("not WHOLE", x.ended(0), -5);
        x = TestKit.town("corners 3; alley 0 1 min 1; alley 1 2 min 1; alley 2 0 min 1; journey 1 0 carts 1;");
        x.show(0);
        due("a RING is one TURNING", x.better(0), 1);
        dueWays("a RING", x, 0, 2, 2, 2);
        x = TestKit.town("corners 3; alley 0 1 min 1; alley 1 2 min 1; alley 2 0 min 1 told; journey 1 0 carts 1;");
        x.show(0);
        due("a RING with a told one", x.better(0), 0);
        x = TestKit.town("alley 0 1 min 1 told; alley 0 1 min 9; alley 1 0 min 5; alley 1 0 min 5; journey 0 1 carts 1; journey 1 0 carts 9;");
        x.show(0);
        due("one is turned", x.show(0), 0);
        x.give(0, 1, 1);
        due("nothing betters", x.better(0), 0);
        x = TestKit.town("alley 0 1 min 3 told; alley 1 0 min 9; alley 0 1 min 2; journey 1 0 carts 1;");
        x.give(0, 1, 1);
        x.give(0, 2, 1);
        due("the first that betters", x.better(0), 1);
        dueWays("the first that betters", x, 0, 1, 1, 2);
        fiftyTurnings();
    }

    /** A town that was searched for: from these ways on, 54 TURNINGS better it. */
    private static void fiftyTurnings() {
        OneWays x = TestKit.town("corners 9;alley 1 3min18;alley 7 3min16;alley 4 1min51;alley 3 2min50;alley 4 7min10;alley 8 0min6;"
                + "alley 4 7min2;alley 1 3min60;alley 7 1min31;alley 1 8min47;alley 0 8min10;alley 6 3min53;alley 5 6min53;"
                + "alley 8 1min49;alley 4 6min15;alley 8 3min37;alley 3 6min26;alley 4 5min27;alley 6 7min12;alley 1 0min25;"
                + "alley 1 2min24;alley 6 3min17;alley 0 4min38;alley 0 1min48;alley 4 1min40;alley 2 8min13;alley 8 2min16;"
                + "alley 6 1min9;journey7 6carts87;journey3 6carts10;journey6 0carts16;journey4 1carts58;journey5 8carts99;"
                + "journey0 3carts3;journey8 7carts57;journey3 0carts13;journey2 6carts76;journey3 2carts81;");
        int[] ways = {2, 1, 1, 2, 2, 2, 1, 1, 1, 2, 2, 1, 1, 2, 2, 1, 2, 1, 1, 2, 2, 1, 1, 2, 1, 2, 1, 1};
        for (int a = 0; a < ways.length; a++) {
            x.give(0, a, ways[a]);
        }
        due("fifty at most", x.better(0), 50);
        due("ended", x.ended(0), 0);
        due("the rest", x.better(0), 4);
        due("ended", x.ended(0), 1);
    }

    /** Promises 23, 24. */
    private static void streetsAndGrid() {
        OneWays x = TestKit.town("grid 2 by 3 min 4; street 0 2; street 1 3 4;");
        due("alike, all OPEN", x.alike(0), 0);
        due("alike(2)", x.alike(2), -2);
        due("known(2)", x.known(2), -2);
        x.give(0, 3, 1);
        due("alike", x.alike(0), 2);
        due("known", x.known(0), 7);
        dueWays("known", x, 0, 1, 2, 1, 1, 1, 2, 2);
        due("the other stays", x.way(1, 0), 0);
        due("alike", x.alike(0), 2);
        x.give(0, 2, 2);
        due("alike", x.alike(0), 3);
        due("known again", x.known(0), 7);
        int[][] ends = {{0, 1}, {2, 3}, {4, 5}, {0, 2}, {2, 4}, {1, 3}, {3, 5}};
        for (int a = 0; a < ends.length; a++) {
            due("alley(" + a + ", 0)", x.alley(a, 0), ends[a][0]);
            due("alley(" + a + ", 1)", x.alley(a, 1), ends[a][1]);
            due("alley(" + a + ", 2)", x.alley(a, 2), 4);
            due("alley(" + a + ", 3)", x.alley(a, 3), -1);
        }
        due("known without a GRID", TestKit.town(RING).known(0), -6);
        due("alike without a STREET", TestKit.town(RING).alike(0), 0);
        due("known, all of it", TestKit.town("grid 4 by 4 min 1; alley 0 15 min 1;").known(1), 24);
    }

    /** Promise 25. */
    private static void rings() {
        OneWays x = shownRing();
        due("ring", x.ring(0, 0), 20);
        due("ring", x.ring(0, 4), 13);
        due("ring, OPEN", x.ring(1, 0), 10);
        due("no ALLEY", x.ring(0, 5), -2);
        due("no ALLEY", x.ring(0, -1), -2);
        due("ring(2, 0)", x.ring(2, 0), -2);
        x.give(0, 3, 2);
        due("no way back", x.ring(0, 3), -1);
        x = TestKit.town("alley 0 1 min 9; alley 0 1 min 4;");
        x.give(0, 0, 2);
        due("as it goes", x.ring(0, 0), 13);
        x.give(0, 1, 2);
        due("no way back", x.ring(0, 0), -1);
    }

    /** Promises 27 to 29. */
    private static void pairs() {
        OneWays x = shownRing();
        due("ahead of any", x.paired(0), -1);
        due("ahead of any", x.paired(1), -1);
        due("pair(2)", x.pair(2), -2);
        due("pair", x.pair(0), 10);
        due("paired(0)", x.paired(0), 1);
        due("paired(1)", x.paired(1), 0);
        due("paired(2)", x.paired(2), -1);
        due("paired(-1)", x.paired(-1), -1);
        due("total(0, 0)", x.total(0, 0), 99);
        due("total(0, 1)", x.total(0, 1), 15);
        due("total(0, 2)", x.total(0, 2), -2);
        due("total(0, -1)", x.total(0, -1), -2);
        due("total(2, 0)", x.total(2, 0), -2);
        x.give(0, 3, 2);
        due("not WHOLE", x.pair(0), -1);
        due("the latest that told a number", x.paired(0), 1);
        due("not WHOLE", x.total(0, 0), -1);
        due("not WHOLE", x.total(0, 1), -1);
        due("another what first", x.total(0, 2), -2);
        due("pair, OPEN", x.pair(1), 0);
        due("the first of all", x.paired(0), 0);
        due("the first of all", x.paired(1), 1);
    }

    /** Promises 30 to 32. */
    private static void coins() {
        OneWays x = TestKit.town(RING);
        due("some OPEN", x.coin(0, 5), -5);
        due("some OPEN", x.next(0, 5), -5);
        due("another coin first", x.coin(0, 10000), -2);
        due("another coin", x.coin(0, -1), -2);
        due("another coin", x.next(0, 10000), -2);
        due("another coin", x.next(0, -1), -2);
        due("coin(2, 0)", x.coin(2, 0), -2);
        due("next(2, 0)", x.next(2, 0), -2);
        due("paid(2)", x.paid(2), -2);
        x.show(0);
        due("next", x.next(0, 0), 5);
        due("next", x.next(0, 4), 5);
        due("next", x.next(0, 5), -1);
        due("next", x.next(0, 9999), -1);
        due("coin", x.coin(0, 4), 20);
        due("paid", x.paid(0), 0);
        due("coin", x.coin(0, 5), 6);
        due("paid", x.paid(0), 5);
        due("way", x.way(0, 4), 3);
        due("coin again", x.coin(0, 9999), 6);
        // 1 with 2, or 3 alone, spare the same for the same price: the row (1, 2) is ahead.
        String same = "corners 3; alley 0 1 min 1 told; alley 1 2 min 1 price 1; alley 2 0 min 1 price 1; alley 0 2 min 2 told;"
                + " alley 1 0 min 9 told; alley 2 1 min 9 told; alley 2 0 min 2 price 0; journey 2 0 carts 1;";
        x = TestKit.town(same);
        x.give(0, 1, 1);
        x.give(0, 2, 2);
        x.give(0, 6, 2);
        due("coin", x.coin(0, 9), 0);
        due("the least SUM, whatever it costs", x.way(0, 2), 3);
        due("not more than that", x.way(0, 1), 1);
        due("not more than that", x.way(0, 6), 2);
        x = TestKit.town("alley 0 1 min 1 told; alley 1 0 min 9 told; alley 0 1 min 4 price 2; alley 0 1 min 4 price 2;"
                + " alley 0 1 min 4 price 0 told; journey 1 0 carts 1;");
        x.give(0, 2, 1);
        x.give(0, 3, 1);
        due("coin", x.coin(0, 4), 3);
        dueWays("the first by numbers", x, 0, 1, 1, 3, 1, 1);
        x = TestKit.town("alley 0 1 min 1 told; alley 1 0 min 9 told;" + "alley 0 1 min 9 price 0;".repeat(9)
                + "alley 0 1 min 1 price 0; journey 1 0 carts 1;");
        for (int a = 2; a < 12; a++) {
            x.give(0, a, 1);
        }
        due("the first nine alone", x.coin(0, 9999), 8);
        due("none for nothing", x.paid(0) + x.way(0, 2), 1);
        due("the tenth", x.way(0, 11), 1);
    }

    /** Promises 33, 34, 36. */
    private static void engine() {
        OneWays x = shownRing();
        int[] minutes = {0, 5, 3, 8};
        for (int c = 0; c < 4; c++) {
            due("fire(0, " + c + ")", x.fire(0, c), minutes[c]);
        }
        due("lastFire", x.lastFire(0), 3);
        due("reach", x.reach(0, 0), 1);
        due("reach", x.reach(0, 3), 5);
        due("reach", x.reach(0, 5), 7);
        due("reach", x.reach(0, 9999), 15);
        x.give(0, 2, 2);
        due("against, in twice the minutes", x.fire(0, 3), 10);
        due("others can't", x.minutes(0, 0, 3), -1);
        x.give(0, 0, 2);
        x.give(0, 1, 1);
        due("it can't come", x.fire(0, 1), -1);
        due("later than all", x.lastFire(0), 1);
        due("reach", x.reach(0, 9999), 13);
        due("fire(2, 0)", x.fire(2, 0), -2);
        due("no CORNER", x.fire(0, 4), -2);
        due("no CORNER", x.fire(0, -1), -2);
        due("lastFire(2)", x.lastFire(2), -2);
        due("reach(2, 0)", x.reach(2, 0), -2);
        due("reach(0, 10000)", x.reach(0, 10000), -2);
        due("reach(0, -1)", x.reach(0, -1), -2);
        x = TestKit.town(ROW);
        due("no HOUSE", x.fire(0, 0), -6);
        due("no CORNER first", x.fire(0, 3), -2);
        due("no HOUSE", x.lastFire(0), -6);
        due("no HOUSE", x.reach(0, 0), -6);
        due("the least of several", TestKit.town("corners 4; house 0;").lastFire(0), 1);
    }

    /** Promise 35. */
    private static void overNoon() {
        OneWays x = shownRing();
        x.best(1, 0);
        due("ahead of NOON", x.arrive(1, 0, 100), 15);
        due("behind NOON", x.arrive(1, 100, 0), 105);
        due("over NOON, the first of two ways", x.arrive(1, 10, 12), 25);
        due("at NOON", x.arrive(1, 10, 10), 15);
        due("there at NOON", x.arrive(1, 10, 15), 25);
        due("there ahead of NOON", x.arrive(1, 10, 16), 25);
        due("beyond the day", x.arrive(1, 1439, 0), 1444);
        due("no JOURNEY", x.arrive(2, 0, 0), -2);
        due("no JOURNEY", x.arrive(-1, 0, 0), -2);
        due("no minute", x.arrive(0, 1440, 0), -2);
        due("no minute", x.arrive(0, -1, 0), -2);
        due("no NOON", x.arrive(0, 0, 1440), -2);
        due("no NOON", x.arrive(0, 0, -1), -2);
        x.give(1, 3, 2);
        x.give(1, 0, 1);
        due("it can't go on", x.arrive(1, 10, 12), -1);
        due("it can ahead of NOON", x.arrive(1, 10, 100), 25);
    }

    /** Promises 37, 38, 40. */
    private static void afternoons() {
        OneWays x = TestKit.town(RING);
        due("some OPEN", x.afternoon(1), -5);
        due("another k first", x.afternoon(3), -2);
        due("another k", x.afternoon(-1), -2);
        x.show(0);
        due("sumBack", x.sumBack(0), 21);
        due("sumBack(2)", x.sumBack(2), -2);
        due("change", x.change(), 5);
        due("afternoon(0)", x.afternoon(0), 0);
        due("change", x.change(), 0);
        dueWays("afternoon(0)", x, 1, 1, 1, 1, 1, 1);
        due("afternoon(2), the fewest", x.afternoon(2), 1);
        dueWays("afternoon(2)", x, 1, 1, 1, 1, 1, 2);
        dueWays("GIVING 0 stays", x, 0, 1, 1, 1, 1, 1);
        due("sumBack", x.sumBack(1), 0);
        due("change", x.change(), 1);
        x.give(0, 3, 2);
        due("not WHOLE", x.afternoon(1), -5);
        due("can't be gone back", x.sumBack(0), -1);
        x = TestKit.town("corners 3; alley 0 1 min 1; alley 0 1 min 5; alley 1 2 min 1; alley 2 1 min 5; journey 0 2 carts 1;");
        x.give(0, 0, 1);
        x.give(0, 1, 2);
        x.give(0, 2, 1);
        x.give(0, 3, 1);
        due("sumBack", x.sumBack(0), 8);
        due("one turned is not WHOLE", x.afternoon(1), 0);
        due("two turned", x.afternoon(2), 2);
        dueWays("the first pair", x, 1, 2, 1, 1, 1);
    }

    /** Promise 39. */
    private static void walks() {
        OneWays x = shownRing();
        int[] corners = {0, 1, 2, 3, 0, 1};
        for (int n = 0; n < corners.length; n++) {
            due("walk(0, 0, " + n + ")", x.walk(0, 0, n), corners[n]);
        }
        due("walk(0, 0, 100)", x.walk(0, 0, 100), 0);
        due("walk(0, 0, 101)", x.walk(0, 0, 101), -2);
        due("walk(0, 0, -1)", x.walk(0, 0, -1), -2);
        due("walk(0, 4, 1)", x.walk(0, 4, 1), -2);
        due("walk(0, -1, 1)", x.walk(0, -1, 1), -2);
        due("walk(2, 0, 1)", x.walk(2, 0, 1), -2);
        x = TestKit.town(ROW);
        int[] to = {0, 1, 2, 1, 0, 1};
        for (int n = 0; n < to.length; n++) {
            due("back by the same one, walk(0, 0, " + n + ")", x.walk(0, 0, n), to[n]);
        }
        x.give(0, 1, 1);
        due("they stand", x.walk(0, 0, 100), 2);
        due("none at all", TestKit.town("corners 3;").walk(0, 1, 5), 1);
    }

    /** Promise 41. */
    private static void signs() {
        OneWays x = TestKit.town(RING);
        due("signs(2)", x.signs(2), -2);
        due("all OPEN", x.signs(0), 0);
        x.show(0);
        due("signs", x.signs(0), 4);
        x.give(0, 2, 2);
        due("two shut and none not", x.signs(0), 1 + 1 + 3 + 0);
        x.give(0, 4, 3);
        due("two shut and one not", x.signs(0), 1 + 1 + 1 + 0);
    }

    /** Promises 42 to 44. */
    private static void loads() {
        OneWays x = shownRing();
        due("gone", x.gone(0, 1, 0), 1);
        due("gone", x.gone(0, 1, 1), 2);
        due("gone", x.gone(0, 1, 2), 3);
        due("gone", x.gone(0, 1, 3), -1);
        due("gone", x.gone(0, 1, -1), -1);
        due("gone", x.gone(0, 1, Integer.MAX_VALUE), -1);
        due("no JOURNEY", x.gone(0, 2, 0), -2);
        due("no JOURNEY", x.gone(0, -1, 0), -2);
        due("gone(2, ..)", x.gone(2, 0, 0), -2);
        due("busiest", x.busiest(0), 4);
        due("load", x.load(0, 0), 0);
        due("load", x.load(0, 1), 2);
        due("load", x.load(0, 4), 3);
        due("busiest", x.busiest(0), 4);
        due("no ALLEY", x.load(0, 5), -2);
        due("no ALLEY", x.load(0, -1), -2);
        due("load(2, ..)", x.load(2, 0), -2);
        due("busiest(2)", x.busiest(2), -2);
        x.give(0, 3, 2);
        due("it can't be gone", x.gone(0, 1, 0), -1);
        due("left out", x.load(0, 1), 0);
        due("load", x.load(0, 4), 3);
        due("no carts", TestKit.town(ROW).busiest(0), 0);
        due("no ALLEYS", new OneWays().busiest(0), -1);
        x = TestKit.town("alley 0 1 min 2; alley 0 1 min 2; journey 0 1 carts 7; journey 1 0 carts 5;");
        due("the first of two as short", x.load(0, 0), 12);
        due("the first of two as short", x.load(0, 1), 0);
    }

    /** Promise 45. */
    private static void judged() {
        OneWays x = shownRing();
        due("nothing", x.judge(0, 0), -6);
        due("no SLOT", x.judge(4, 0), -2);
        due("no SLOT", x.judge(-1, 0), -2);
        due("another what first", x.judge(0, 7), -2);
        due("another what", x.judge(0, -1), -2);
        x.row(0, 1, 5);
        due("all OPEN", x.judge(0, 0), 1);
        due("otherwise", x.judge(0, 5), 5);
        int[] row = {1, 1, 1, 1, 3};
        for (int i = 0; i < 5; i++) {
            x.write(0, i, row[i]);
        }
        int[] want = {1, 1, 6, 3, 4, 1, 5};
        for (int what = 0; what < 7; what++) {
            due("judge(0, " + what + ")", x.judge(0, what), want[what]);
        }
        dueWays("nothing is given", x, 0, 1, 1, 1, 1, 1);
        x.write(0, 3, 2);
        due("not WHOLE", x.judge(0, 1), 0);
        due("its SUM", x.judge(0, 2), 6);
        x.write(0, 4, 1);
        due("its SUM", x.judge(0, 2), -1);
        due("its greatest", x.judge(0, 3), -1);
        due("its SIGNS", x.judge(0, 4), 4);
        x.write(0, 0, 3);
        due("BOTH without a price", x.judge(0, 0), 0);
        for (int what = 1; what < 7; what++) {
            due("judge(0, " + what + ")", x.judge(0, what), -1);
        }
        x.write(0, 0, 4);
        due("4", x.judge(0, 0), 0);
        x.write(0, 0, -1);
        due("-1", x.judge(0, 0), 0);
        x.write(0, 0, 65536 + 2);
        due("cut to 2", x.judge(0, 0), 1);
        x.row(1, 0, 6);
        due("one too many", x.judge(1, 0), 0);
        x.row(1, 0, 4);
        due("one too few", x.judge(1, 0), 0);
        TestKit.tell(x, "alley 0 1 min 1 price 2 told;");
        x.row(2, 2, 1);
        due("told, 0", x.judge(2, 0), 0);
        x.write(2, 0, 3);
        due("told, 3", x.judge(2, 0), 0);
        x.write(2, 0, 1);
        due("told, 1", x.judge(2, 0), 1);
        TestKit.tell(x, "");
        x.row(3, 2, 0);
        due("none of none", x.judge(3, 0), 1);
    }

    /** Promises 46, 47. */
    private static void spares() {
        OneWays x = shownRing();
        due("ahead of any", x.spared(0), -1);
        due("ahead of any", x.spared(1), -1);
        due("spare(2, 1)", x.spare(2, 1), -2);
        due("spare(0, 0)", x.spare(0, 0), -2);
        due("spare(0, 61)", x.spare(0, 61), -2);
        due("spare", x.spare(0, 1), 28);
        due("spared(0)", x.spared(0), 0);
        due("spared(1)", x.spared(1), 1);
        due("spare", x.spare(0, 5), 20);
        due("spare", x.spare(0, 60), 0);
        due("the first of all pairs", x.spared(0), 0);
        due("the first of all pairs", x.spared(1), 1);
        x.give(0, 3, 2);
        due("can't be gone", x.spare(0, 1), -5);
        due("other minutes first", x.spare(0, 61), -2);
        due("the latest that told a number", x.spared(1), 1);
        due("spared(2)", x.spared(2), -1);
        due("spared(-1)", x.spared(-1), -1);
        x = TestKit.town("corners 3; alley 2 1 min 9; alley 0 1 min 9; journey 2 1 carts 2;");
        due("spare", x.spare(0, 4), 10);
        due("the lesser first", x.spared(0), 1);
        due("the lesser first", x.spared(1), 2);
    }

    /** Promises 48 to 51. */
    private static void facts() {
        OneWays x = TestKit.town("corners 4; alley 3 1 min 7 price 0 told; alley 0 2 min 60 against; alley 1 0 min 2; street 2 0;"
                + "journey 1 3 carts 99; journey 3 2 carts 1;");
        int[][] want = {{3, 1, 7, 0, 1, 0}, {0, 2, 60, -1, 0, 1}, {1, 0, 2, -1, 0, 0}};
        for (int a = 0; a < 3; a++) {
            for (int what = 0; what < 6; what++) {
                due("alley(" + a + ", " + what + ")", x.alley(a, what), want[a][what]);
            }
        }
        due("alley(0, 6)", x.alley(0, 6), NOTHING);
        due("alley(0, -1)", x.alley(0, -1), NOTHING);
        due("alley(3, 0)", x.alley(3, 0), NOTHING);
        due("alley(-1, 0)", x.alley(-1, 0), NOTHING);
        due("street(0, 0)", x.street(0, 0), 2);
        due("street(0, 1)", x.street(0, 1), 0);
        due("street(0, 2)", x.street(0, 2), -1);
        due("street(0, -1)", x.street(0, -1), -1);
        due("street(1, 0)", x.street(1, 0), -1);
        due("street(-1, 0)", x.street(-1, 0), -1);
        int[][] trips = {{1, 3, 99, 7}, {3, 2, 1, 69}};
        for (int j = 0; j < 2; j++) {
            for (int what = 0; what < 4; what++) {
                due("journey(" + j + ", " + what + ")", x.journey(j, what), trips[j][what]);
            }
        }
        due("journey(0, 4)", x.journey(0, 4), NOTHING);
        due("journey(0, -1)", x.journey(0, -1), NOTHING);
        due("journey(2, 0)", x.journey(2, 0), NOTHING);
        due("journey(-1, 0)", x.journey(-1, 0), NOTHING);
        due("can't be gone", TestKit.town("journey 0 1 carts 1;").journey(0, 3), -1);
        x.feed(0, 0, 0, 0, 0);
        x.row(2, 0, 0);
        x.row(3, 1, 60);
        x.give(1, 1, 2);
        int[] counts = {7, 4, 3, 2, 1, 20, 2, 1, -1, 2, 1, 0};
        for (int what = 0; what < counts.length; what++) {
            due("count(" + what + ")", x.count(what), counts[what]);
        }
        due("count(12)", x.count(12), -1);
        due("count(-1)", x.count(-1), -1);
        x = TestKit.town("grid 3 by 4 min 1; alley 0 1 min 1; house 11;");
        due("CORNERS of a GRID", x.count(1), 12);
        due("ALLEYS", x.count(2), 18);
        due("ALLEYS of the GRID", x.count(11), 17);
        due("the HOUSE", x.count(8), 11);
    }

    /** Promises 52, 53. */
    private static void images() {
        OneWays x = shownRing();
        due("keep(3)", x.keep(3), -2);
        due("keep(-1)", x.keep(-1), -2);
        due("back(3)", x.back(3), -2);
        due("back(-1)", x.back(-1), -2);
        due("back(0)", x.back(0), -6);
        due("keep(0)", x.keep(0), 0);
        x.give(0, 4, 2);
        due("keep(2)", x.keep(2), 0);
        due("back(1)", x.back(1), -6);
        x.row(0, 0, 7);
        x.pair(0);
        TestKit.tell(x, "grid 2 by 2 min 3; street 0 1; house 3;");
        x.known(1);
        due("keep(1)", x.keep(1), 0);
        TestKit.feed(x, "house 0;");
        due("back(0)", x.back(0), 0);
        due("count(0)", x.count(0), 9);
        due("count(1)", x.count(1), 4);
        due("count(2)", x.count(2), 5);
        due("count(8)", x.count(8), 0);
        due("count(10)", x.count(10), 0);
        due("count(11)", x.count(11), 0);
        due("the TAPE stays", x.count(5), 8);
        due("the SLOTS stay", x.count(9), 1);
        due("what pair() told stays", x.paired(0), 0);
        dueWays("back(0)", x, 0, 1, 1, 1, 1, 1);
        dueWays("back(0)", x, 1, 0, 0, 0, 0, 0);
        due("sum", x.sum(0), 20);
        due("journey", x.journey(0, 3), 3);
        x.give(0, 0, 2);
        due("the IMAGE stays", x.back(0), 0);
        dueWays("back(0)", x, 0, 1, 1, 1, 1, 1);
        due("back(2)", x.back(2), 0);
        due("way", x.way(0, 4), 2);
        due("back(1)", x.back(1), 0);
        due("count(11)", x.count(11), 4);
        due("street(0, 1)", x.street(0, 1), 1);
        dueWays("back(1)", x, 1, 1, 2, 1, 2);
        due("text() of what stayed", x.text(), 1);
        due("count(8)", x.count(8), 0);
    }

    /** Promises 54, 55. */
    private static void rows() {
        OneWays x = TestKit.town("alley 0 1 min 1;");
        due("row(4, 0, 1)", x.row(4, 0, 1), -2);
        due("row(-1, 0, 1)", x.row(-1, 0, 1), -2);
        due("row(0, 4, 1)", x.row(0, 4, 1), -2);
        due("row(0, -1, 1)", x.row(0, -1, 1), -2);
        due("row(0, 0, 61)", x.row(0, 0, 61), -2);
        due("row(0, 0, -1)", x.row(0, 0, -1), -3);
        due("row(4, 0, -1)", x.row(4, 0, -1), -2);
        due("count(9)", x.count(9), 0);
        due("write", x.write(0, 0, 1), -6);
        due("write", x.write(4, 0, 1), -2);
        due("write", x.write(-1, 0, 1), -2);
        due("row(3, 3, 60)", x.row(3, 3, 60), 0);
        due("write", x.write(3, 59, Long.MIN_VALUE), 0);
        due("write", x.write(3, 60, 1), -7);
        due("write", x.write(3, -1, 1), -7);
        due("row(0, 0, 1)", x.row(0, 0, 1), 0);
        due("write", x.write(0, 0, 2), 0);
        due("the SLOT stays", x.row(0, 1, -5), -3);
        due("the SLOT stays", x.row(0, 1, 61), -2);
        due("gives", x.gives(0, 0), 1);
        due("way", x.way(0, 0), 2);
        due("all 0, in place of another", x.row(0, 2, 1), 0);
        due("gives", x.gives(0, 0), 1);
        due("way", x.way(0, 0), 0);
        long[] one = {(1L << 8) + 1, (1L << 16) + 1, (1L << 32) + 1, 1};
        for (int width = 0; width < 4; width++) {
            x.row(0, width, 1);
            x.write(0, 0, one[width]);
            due("cut to 1, WIDTH " + width, x.judge(0, 0), 1);
            x.write(0, 0, width == 0 ? 0 : one[width - 1]);
            due("not cut, WIDTH " + width, x.judge(0, 0), width == 0 ? 1 : 0);
        }
        due("a row of none", x.row(0, 0, 0), 0);
        due("count(9)", x.count(9), 2);
        due("no such number", x.write(0, 0, 0), -7);
    }

    /** Promise 56. */
    private static void pastes() {
        OneWays x = TestKit.town("alley 0 1 min 1;".repeat(5));
        x.row(0, 0, 5);
        x.row(1, 1, 5);
        x.row(2, 0, 6);
        for (int i = 0; i < 5; i++) {
            x.write(0, i, i % 3);
        }
        due("no SLOT", x.paste(4, 0, 0, 0, 0), -2);
        due("no SLOT", x.paste(0, 0, 4, 0, 0), -2);
        due("no SLOT", x.paste(-1, 0, 0, 0, 0), -2);
        due("no SLOT", x.paste(0, 0, -1, 0, 0), -2);
        due("nothing", x.paste(0, 0, 3, 0, 0), -6);
        due("nothing", x.paste(3, 0, 0, 0, 0), -6);
        due("not of one WIDTH", x.paste(0, 0, 1, 0, 9), -8);
        due("beyond", x.paste(0, 0, 2, 0, 6), -7);
        due("beyond", x.paste(0, 1, 2, 0, 5), -7);
        due("beyond", x.paste(0, 0, 2, 2, 5), -7);
        due("below 0", x.paste(0, -1, 2, 0, 1), -7);
        due("below 0", x.paste(0, 0, 2, -1, 1), -7);
        due("below 0", x.paste(0, 0, 2, 0, -1), -7);
        int most = Integer.MAX_VALUE;
        due("beyond all", x.paste(0, most, 2, 0, most), -7);
        due("beyond all", x.paste(0, 1, 2, most, most), -7);
        due("none at the end", x.paste(0, 5, 2, 6, 0), 0);
        due("none beyond the end", x.paste(0, 6, 2, 0, 0), -7);
        due("all", x.paste(0, 0, 0, 0, 5), 0);
        due("paste", x.paste(0, 0, 0, 1, 4), 0);
        x.gives(0, 0);
        dueWays("as they were", x, 0, 0, 0, 1, 2, 0);
        due("paste", x.paste(0, 2, 0, 0, 3), 0);
        x.gives(0, 0);
        dueWays("as they were", x, 0, 1, 2, 0, 2, 0);
        due("paste", x.paste(0, 0, 2, 3, 2), 0);
        x.gives(1, 2);
        dueWays("to another", x, 1, 0, 0, 0, 1, 2);
        due("the source stays", x.gives(0, 0), 5);
        dueWays("the source stays", x, 0, 1, 2, 0, 2, 0);
    }
}
