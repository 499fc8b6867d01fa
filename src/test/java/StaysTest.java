import java.util.function.Supplier;

/** What is refused, and what only asks, leaves all as it was: TAPE, TOWN, GIVINGS, SLOTS, IMAGES and what was told of the latest calls. */
public final class StaysTest {
    private static final int BLANKS = 0x20202020;
    private static final String RING = "corners 4; alley 0 1 min 5; alley 1 2 min 5; alley 2 3 min 5; alley 3 0 min 5 against;"
            + "alley 0 2 min 3 price 5; alley 0 1 min 9 told; street 0 4; journey 0 2 carts 3; journey 1 0 carts 2; house 0;";
    /** Can't be ended, has no HOUSE and no GRID, and by GIVING 0 a JOURNEY can't be gone. */
    private static final String ROW = "corners 3; alley 0 1 min 1; alley 1 2 min 1; journey 0 2 carts 1; journey 2 0 carts 1;";
    private static final String MANY = "corners 3; alley 0 1 min 1;" + "alley 1 2 min 1;".repeat(11) + "alley 2 0 min 1;";
    /** As many ALLEYS as a TOWN can have, so that rows can be seen by what they give. */
    private static final String SEEING = "alley 0 1min1price0;".repeat(28);

    private interface Call {
        int on(OneWays x);
    }

    public static void main(String[] args) {
        refusedWhenRich();
        refusedWhenPoor();
        refusedWhenMany();
        refusedWhenFull();
        faultyText();
        askedWhenRich();
        askedWhenPoor();
        oneGivingAlone();
        latestTold();
        TestKit.finish();
    }

    // ---- states

    /** Things all around the TOWN of now: two IMAGES, three rows, a FAULT, a pair, what was spared, bytes on the TAPE. */
    private static OneWays around() {
        OneWays x = TestKit.town("corners 4; alley 2 3 min 9; alley 2 3 min 4; journey 3 2 carts 2; alley 0 1 min 1; alley 1 2 min 1;");
        x.give(0, 0, 2);
        x.give(0, 1, 1);
        x.pair(0);
        x.spare(0, 1);
        TestKit.tell(x, "grid 2 by 2 min 3; street 0 1; house 3; journey 0 3 carts 5;");
        x.known(0);
        x.give(1, 2, 1);
        x.keep(0);
        TestKit.tell(x, "alley 1 0 min 7 price 9;");
        x.give(1, 0, 3);
        x.keep(2);
        int[] ways = {1, 1, 1, 1, 3, 1};
        x.row(0, 0, 6);
        for (int i = 0; i < 6; i++) {
            x.write(0, i, ways[i]);
        }
        x.row(1, 0, 8);
        x.write(1, 7, 2);
        x.row(3, 3, 5);
        x.write(3, 0, 3);
        x.write(3, 4, 1);
        return x;
    }

    private static OneWays with(String text) {
        OneWays x = around();
        TestKit.tell(x, text);
        TestKit.tell(x, "house 7;");
        x.end(0);
        TestKit.feed(x, "house 1; journey 0 1 carts 7;");
        return x;
    }

    /** GIVING 0 is ended, GIVING 1 is given in part. */
    private static OneWays rich() {
        OneWays x = with(RING);
        x.show(0);
        x.give(1, 1, 2);
        return x;
    }

    private static OneWays poor() {
        OneWays x = with(ROW);
        x.give(0, 0, 1);
        return x;
    }

    private static OneWays full() {
        OneWays x = rich();
        x.end(20);
        for (int n = 20; n < 800; n += 20) {
            x.feed(BLANKS, BLANKS, BLANKS, BLANKS, BLANKS);
        }
        return x;
    }

    // ---- all that can be seen

    private static void seeTown(OneWays x, StringBuilder s) {
        for (int what = 0; what <= 11; what++) {
            if (what != 5 && what != 9) {
                s.append(x.count(what)).append(' ');
            }
        }
        for (int a = 0; a < x.count(2); a++) {
            for (int what = 0; what < 6; what++) {
                s.append(x.alley(a, what)).append(' ');
            }
            s.append(x.way(0, a)).append(' ').append(x.way(1, a)).append(" / ");
        }
        for (int i = 0; i < 3; i++) {
            s.append(x.street(0, i)).append(' ');
        }
        for (int j = 0; j < x.count(3); j++) {
            for (int what = 0; what < 4; what++) {
                s.append(x.journey(j, what)).append(' ');
            }
        }
        s.append("sums ").append(x.sum(0)).append(' ').append(x.sum(1)).append(' ').append(x.whole(0)).append('\n');
    }

    /** Sees all, and leaves nothing as it was. */
    private static String seeAll(OneWays x) {
        StringBuilder s = new StringBuilder();
        seeTown(x, s);
        s.append(x.count(5)).append(' ').append(x.count(9)).append(' ').append(x.fault(0)).append(' ').append(x.fault(1)).append(' ');
        s.append(x.paired(0)).append(' ').append(x.paired(1)).append(' ').append(x.spared(0)).append(' ').append(x.spared(1));
        for (int k = 0; k < 3; k++) {
            s.append("\nIMAGE ").append(x.back(k)).append(": ");
            seeTown(x, s);
        }
        s.append("\nTAPE ").append(x.text()).append(' ').append(x.fault(0)).append(' ').append(x.fault(1)).append(": ");
        seeTown(x, s);
        TestKit.tell(x, SEEING);
        for (int slot = 0; slot < 4; slot++) {
            s.append("\nSLOT ").append(x.gives(0, slot)).append(": ");
            for (int a = 0; a < 8; a++) {
                s.append(x.way(0, a)).append(' ');
            }
            for (int n = 0; n < 10; n++) {
                s.append(x.write(slot, n, 0)).append(' ');
            }
            x.clear(0);
        }
        int lent = x.paste(0, 0, 1, 0, 0);
        return s.append(lent).append(' ').append(x.paste(0, 0, 3, 0, 0)).append(' ').append(x.paste(3, 0, 2, 0, 0)).toString();
    }

    private static void stays(String name, Supplier<OneWays> state, int want, Call call) {
        OneWays x = state.get();
        TestKit.due(name, call.on(x), want);
        TestKit.dueText("all behind " + name, seeAll(x), seeAll(state.get()));
    }

    private static void asks(String name, Supplier<OneWays> state, Call call) {
        OneWays x = state.get();
        int once = call.on(x);
        TestKit.due(name + " asked again", call.on(x), once);
        TestKit.dueText("all behind " + name, seeAll(x), seeAll(state.get()));
    }

    // ---- refused

    private static void refusedWhenRich() {
        Supplier<OneWays> s = StaysTest::rich;
        stays("end(30)", s, -1, x -> x.end(30));
        stays("end(-1)", s, -1, x -> x.end(-1));
        int[][] gives = {{2, 0, 1}, {-1, 0, 1}, {0, 6, 1}, {0, -1, 1}, {0, 0, 4}, {0, 0, -1}, {0, 0, 3}, {0, 5, 0}, {0, 5, 1}, {1, 5, 2}};
        for (int[] g : gives) {
            stays("give(" + g[0] + ", " + g[1] + ", " + g[2] + ")", s, -2, x -> x.give(g[0], g[1], g[2]));
        }
        stays("gives(2, 0)", s, -2, x -> x.gives(2, 0));
        stays("gives(-1, 0)", s, -2, x -> x.gives(-1, 0));
        stays("gives(0, 4)", s, -2, x -> x.gives(0, 4));
        stays("gives(0, -1)", s, -2, x -> x.gives(0, -1));
        stays("gives(0, 2)", s, -6, x -> x.gives(0, 2));
        int[] none = {2, -1};
        for (int g : none) {
            stays("clear(" + g + ")", s, -2, x -> x.clear(g));
            stays("show(" + g + ")", s, -2, x -> x.show(g));
            stays("best(" + g + ", 0)", s, -2, x -> x.best(g, 0));
            stays("better(" + g + ")", s, -2, x -> x.better(g));
            stays("known(" + g + ")", s, -2, x -> x.known(g));
            stays("coin(" + g + ", 9)", s, -2, x -> x.coin(g, 9));
            stays("pair(" + g + ")", s, -2, x -> x.pair(g));
            stays("spare(" + g + ", 1)", s, -2, x -> x.spare(g, 1));
        }
        stays("best(1, 2)", s, -2, x -> x.best(1, 2));
        stays("best(1, -1)", s, -2, x -> x.best(1, -1));
        stays("better(1)", s, -5, x -> x.better(1));
        stays("known(0)", s, -6, x -> x.known(0));
        stays("known(1)", s, -6, x -> x.known(1));
        stays("coin(0, -1)", s, -2, x -> x.coin(0, -1));
        stays("coin(0, 10000)", s, -2, x -> x.coin(0, 10000));
        stays("coin(1, 9999)", s, -5, x -> x.coin(1, 9999));
        stays("afternoon(3)", s, -2, x -> x.afternoon(3));
        stays("afternoon(-1)", s, -2, x -> x.afternoon(-1));
        stays("spare(0, 0)", s, -2, x -> x.spare(0, 0));
        stays("spare(0, 61)", s, -2, x -> x.spare(0, 61));
        refusedImagesAndRows(s);
    }

    private static void refusedImagesAndRows(Supplier<OneWays> s) {
        stays("keep(3)", s, -2, x -> x.keep(3));
        stays("keep(-1)", s, -2, x -> x.keep(-1));
        stays("back(3)", s, -2, x -> x.back(3));
        stays("back(-1)", s, -2, x -> x.back(-1));
        stays("back(1)", s, -6, x -> x.back(1));
        int[][] rows = {{4, 0, 1, -2}, {-1, 0, 1, -2}, {0, 4, 1, -2}, {0, -1, 1, -2}, {0, 1, 61, -2}, {0, 1, -1, -3},
            {0, 1, Integer.MIN_VALUE, -3}, {0, 1, Integer.MAX_VALUE, -2}, {2, 1, -1, -3}, {2, 1, 61, -2}, {2, 4, 1, -2}};
        for (int[] r : rows) {
            stays("row(" + r[0] + ", " + r[1] + ", " + r[2] + ")", s, r[3], x -> x.row(r[0], r[1], r[2]));
        }
        int[][] writes = {{4, 0, -2}, {-1, 0, -2}, {2, 0, -6}, {0, 6, -7}, {0, -1, -7}, {1, 8, -7}, {3, 5, -7},
            {0, Integer.MAX_VALUE, -7}, {0, Integer.MIN_VALUE, -7}};
        for (int[] w : writes) {
            stays("write(" + w[0] + ", " + w[1] + ", 2)", s, w[2], x -> x.write(w[0], w[1], 2));
        }
        int[][] pastes = {{4, 0, 0, 0, 1, -2}, {0, 0, 4, 0, 1, -2}, {-1, 0, 0, 0, 1, -2}, {0, 0, -1, 0, 1, -2}, {0, 0, 2, 0, 1, -6},
            {2, 0, 0, 0, 1, -6}, {2, 0, 2, 0, 0, -6}, {0, 0, 3, 0, 1, -8}, {3, 0, 0, 0, 1, -8}, {0, 0, 1, 0, 7, -7}, {1, 0, 0, 0, 7, -7},
            {0, 5, 1, 0, 2, -7}, {0, 0, 1, 7, 2, -7}, {0, -1, 1, 0, 2, -7}, {0, 0, 1, -1, 2, -7}, {0, 0, 1, 0, -1, -7},
            {0, 4, 0, 5, 2, -7}, {0, 5, 0, 4, 2, -7}, {0, 0, 1, Integer.MAX_VALUE, 1, -7}, {0, 1, 1, 1, Integer.MAX_VALUE, -7}};
        for (int[] p : pastes) {
            stays("paste(" + p[0] + ", " + p[1] + ", " + p[2] + ", " + p[3] + ", " + p[4] + ")", s, p[5],
                    x -> x.paste(p[0], p[1], p[2], p[3], p[4]));
        }
    }

    private static void refusedWhenPoor() {
        Supplier<OneWays> s = StaysTest::poor;
        stays("show(0), not WHOLE", s, -1, x -> x.show(0));
        stays("show(1), can't be ended", s, -1, x -> x.show(1));
        stays("best(0, 0), not WHOLE", s, -1, x -> x.best(0, 0));
        stays("best(1, 0), can't be ended", s, -1, x -> x.best(1, 0));
        stays("best(1, 1), can't be ended", s, -1, x -> x.best(1, 1));
        stays("better(0)", s, -5, x -> x.better(0));
        stays("better(1)", s, -5, x -> x.better(1));
        stays("coin(0, 99)", s, -5, x -> x.coin(0, 99));
        stays("coin(1, 99)", s, -5, x -> x.coin(1, 99));
        stays("known(0)", s, -6, x -> x.known(0));
        for (int k = 0; k < 3; k++) {
            int turned = k;
            stays("afternoon(" + k + ")", s, -5, x -> x.afternoon(turned));
        }
        stays("pair(0)", s, -1, x -> x.pair(0));
        stays("spare(0, 1)", s, -5, x -> x.spare(0, 1));
    }

    private static void refusedWhenMany() {
        Supplier<OneWays> s = () -> with(MANY);
        stays("best(0, 0), thirteen OPEN", s, -3, x -> x.best(0, 0));
        stays("best(1, 1), thirteen OPEN", s, -3, x -> x.best(1, 1));
        stays("better(0)", s, -5, x -> x.better(0));
        stays("afternoon(2)", s, -5, x -> x.afternoon(2));
    }

    /** "none come, if it would have more than 800". */
    private static void refusedWhenFull() {
        stays("feed of a full TAPE", StaysTest::full, -1, x -> x.feed(0, 0, 0, 0, 0));
        stays("feed of a nearly full TAPE", () -> {
            OneWays x = full();
            x.end(781);
            return x;
        }, -1, x -> x.feed(0, 0, 0, 0, 0));
        stays("end(801)", StaysTest::full, -1, x -> x.end(801));
    }

    /** "-4: a FAULT (all stays)": the one text() told its FAULT already, so that all is the same behind the next. */
    private static void faultyText() {
        String[] texts = {"house 2;", "corners 9; alley 0 8 min 1; #", "grid 4 by 4 min 60; house 1; house 1;", "street 0 1;", "corners 3"};
        for (String text : texts) {
            Supplier<OneWays> s = () -> {
                OneWays x = rich();
                TestKit.tell(x, text);
                return x;
            };
            stays("text() of " + text, s, -4, OneWays::text);
            OneWays x = rich();
            StringBuilder before = new StringBuilder();
            seeTown(x, before);
            TestKit.due("text() of " + text, TestKit.tell(x, text), -4);
            StringBuilder behind = new StringBuilder();
            seeTown(x, behind);
            TestKit.dueText("TOWN and GIVINGS behind " + text, behind.toString(), before.toString());
            TestKit.due("the TAPE behind " + text, x.count(5), TestKit.tapeBehindFault(text.length()));
        }
    }

    // ---- asked

    private static void askedWhenRich() {
        asksAll(StaysTest::rich);
    }

    private static void askedWhenPoor() {
        asksAll(StaysTest::poor);
    }

    private static void asksAll(Supplier<OneWays> s) {
        for (int i = 0; i < 2; i++) {
            int g = i;
            asks("whole", s, x -> x.whole(g));
            asks("can", s, x -> x.can(g));
            asks("bar", s, x -> x.bar(g));
            asks("cut", s, x -> x.cut(g));
            asks("forced", s, x -> x.forced(g));
            asks("forcedWay", s, x -> x.forcedWay(g, 1));
            asks("minutes", s, x -> x.minutes(g, 0, 2));
            asks("round", s, x -> x.round(g, 1));
            asks("sum", s, x -> x.sum(g));
            asks("worst", s, x -> x.worst(g));
            asks("alike", s, x -> x.alike(g));
            asks("ring", s, x -> x.ring(g, 1));
            asks("ended", s, x -> x.ended(g));
            asks("total", s, x -> x.total(g, 0));
            asks("next", s, x -> x.next(g, 0));
            asks("paid", s, x -> x.paid(g));
            asks("fire", s, x -> x.fire(g, 2));
            asks("lastFire", s, x -> x.lastFire(g));
            asks("reach", s, x -> x.reach(g, 7));
            asks("sumBack", s, x -> x.sumBack(g));
            asks("walk", s, x -> x.walk(g, 0, 9));
            asks("signs", s, x -> x.signs(g));
            asks("gone", s, x -> x.gone(g, 0, 0));
            asks("load", s, x -> x.load(g, 0));
            asks("busiest", s, x -> x.busiest(g));
        }
        asks("arrive", s, x -> x.arrive(0, 700, 703));
        asks("change", s, OneWays::change);
        asks("fault", s, x -> x.fault(0));
        asks("paired", s, x -> x.paired(0));
        asks("spared", s, x -> x.spared(1));
        for (int i = 0; i <= 6; i++) {
            int what = i;
            asks("judge(0, " + what + ")", s, x -> x.judge(0, what));
            asks("judge(1, " + what + ")", s, x -> x.judge(1, what));
        }
    }

    // ---- what is changed, and no more

    /** What is done in one GIVING leaves the other, the IMAGES and the rows. */
    private static void oneGivingAlone() {
        Call[] calls = {x -> x.give(0, 0, 2), x -> x.gives(0, 0), x -> x.clear(0), x -> x.better(0), x -> x.coin(0, 9),
            x -> x.clear(0) + x.show(0), x -> x.clear(0) + x.best(0, 0), x -> x.clear(0) + x.best(0, 1)};
        for (int i = 0; i < calls.length; i++) {
            OneWays x = rich();
            calls[i].on(x);
            x.clear(0);
            TestKit.dueText("all but GIVING 0 behind call " + i, seeAll(x), seeAll(cleared(0)));
        }
        OneWays x = rich();
        x.afternoon(2);
        x.clear(1);
        TestKit.dueText("all but GIVING 1 behind afternoon(2)", seeAll(x), seeAll(cleared(1)));
    }

    private static OneWays cleared(int g) {
        OneWays x = rich();
        x.clear(g);
        return x;
    }

    /** "by the latest pair() that told a number", "the latest spare() that told a number": nothing else makes them another. */
    private static void latestTold() {
        OneWays x = TestKit.town("corners 3; alley 0 1 min 1; alley 1 2 min 1; alley 2 0 min 1; journey 2 1 carts 1;");
        x.show(0);
        TestKit.due("pair(0)", x.pair(0), 1);
        TestKit.due("from", x.paired(0), 0);
        TestKit.due("to", x.paired(1), 2);
        TestKit.due("spare(0, 1)", x.spare(0, 1), 1);
        TestKit.due("from", x.spared(0), 1);
        TestKit.due("to", x.spared(1), 2);
        x.keep(0);
        TestKit.due("another TOWN", TestKit.tell(x, "journey 0 1 carts 1;"), 1);
        TestKit.due("a pair that told none", x.pair(0), -1);
        TestKit.due("a spare that told none", x.spare(0, 1), -5);
        x.clear(0);
        x.back(0);
        TestKit.due("from", x.paired(0), 0);
        TestKit.due("to", x.paired(1), 2);
        TestKit.due("from", x.spared(0), 1);
        TestKit.due("to", x.spared(1), 2);
        TestKit.due("pair(1)", x.pair(1), 0);
        TestKit.due("the latest, from", x.paired(0), 0);
        TestKit.due("the latest, to", x.paired(1), 1);
        TestKit.due("spare(1, 60)", x.spare(1, 60), 0);
        TestKit.due("the latest, from", x.spared(0), 0);
        TestKit.due("the latest, to", x.spared(1), 1);
    }
}
