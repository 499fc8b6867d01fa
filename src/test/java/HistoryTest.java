/**
 * Nothing is left of what was ahead: a TOWN that is told, or gone back to, answers as in a new object,
 * whatever was there before it, empty and full TOWNS, TAPES, rows and IMAGES above all.
 */
public final class HistoryTest {
    private static final String[] TEXTS = {
        "",
        FullTown.text(),
        "grid 4 by 4 min 60; street 23 0 22 1 21 2; house 0; journey 15 0 carts 99;",
        "grid 2 by 3 min 2; alley 0 5 min 3 price 4 told against; alley 5 0 min 9; journey 5 1 carts 3;",
        "corners 3; alley 0 1 min 1; alley 1 2 min 2; journey 0 2 carts 1; journey 2 0 carts 4; house 2; street 1 0;",
        "corners 16;",
        "alley 0 1 min 7 price 0; alley 1 0 min 4 against; journey 1 0 carts 9;",
    };

    public static void main(String[] args) {
        fullFacts();
        textsBehindOthers();
        faultsBetween();
        imagesAmongOthers();
        imagesOfImages();
        rowsBehindOthers();
        fullTapesAgain();
        TestKit.finish();
    }

    private static void due(String call, long got, long want) {
        TestKit.due(call, got, want);
    }

    // ---- all that a TOWN answers

    private static String facts(OneWays x) {
        StringBuilder s = new StringBuilder();
        for (int what = 0; what <= 11; what++) {
            s.append(what == 5 || what == 9 ? 0 : x.count(what)).append(' ');
        }
        for (int a = 0; a < x.count(2); a++) {
            for (int what = 0; what < 6; what++) {
                s.append(x.alley(a, what)).append(' ');
            }
        }
        s.append("/ ");
        for (int t = 0; t < 7; t++) {
            for (int i = 0; i < 7; i++) {
                s.append(x.street(t, i)).append(' ');
            }
        }
        for (int j = 0; j <= x.count(3); j++) {
            for (int what = 0; what < 4; what++) {
                s.append(x.journey(j, what)).append(' ');
            }
        }
        return s.toString();
    }

    private static String ways(OneWays x) {
        StringBuilder s = new StringBuilder();
        for (int g = 0; g < 2; g++) {
            for (int a = 0; a <= x.count(2); a++) {
                s.append(x.way(g, a)).append(' ');
            }
            s.append("/ ");
        }
        return s.append(x.change()).toString();
    }

    private static String answers(OneWays x) {
        StringBuilder s = new StringBuilder();
        int last = x.count(1) - 1;
        for (int g = 0; g < 2; g++) {
            int[] got = {x.whole(g), x.can(g), x.bar(g), x.cut(g), x.forced(g), x.forcedWay(g, 0), x.sum(g), x.worst(g), x.alike(g),
                x.ring(g, 0), x.ended(g), x.total(g, 0), x.total(g, 1), x.next(g, 0), x.paid(g), x.lastFire(g), x.reach(g, 9),
                x.sumBack(g), x.walk(g, last, 9), x.signs(g), x.busiest(g), x.pair(g), x.spare(g, 1)};
            for (int answer : got) {
                s.append(answer).append(' ');
            }
            for (int c = 0; c <= last + 1; c++) {
                s.append(x.minutes(g, 0, c)).append(' ').append(x.minutes(g, c, last)).append(' ').append(x.fire(g, c)).append(' ');
            }
            for (int j = 0; j <= x.count(3); j++) {
                s.append(x.round(g, j)).append(' ').append(x.gone(g, j, 1)).append(' ');
            }
            for (int a = 0; a <= x.count(2); a++) {
                s.append(x.load(g, a)).append(' ');
            }
            s.append("/ ");
        }
        return s.append(x.arrive(0, 7, 9)).toString();
    }

    /** What changes the ways, as far as it may. */
    private static String deeds(OneWays x) {
        return x.known(0) + " " + x.best(0, 0) + " " + x.show(0) + " " + x.show(1) + " " + x.better(1) + " " + x.coin(0, 9) + " "
                + x.afternoon(1) + " " + ways(x);
    }

    private static void same(String name, OneWays got, OneWays fresh, int part) {
        switch (part) {
            case 0:
                TestKit.dueText("facts " + name, facts(got), facts(fresh));
                break;
            case 1:
                TestKit.dueText("ways " + name, ways(got), ways(fresh));
                TestKit.dueText("answers " + name, answers(got), answers(fresh));
                break;
            default:
                TestKit.dueText("deeds " + name, deeds(got), deeds(fresh));
        }
    }

    // ---- a full TOWN

    private static void fullFacts() {
        OneWays x = FullTown.given();
        for (int a = 0; a < 28; a++) {
            int from = a < 16 ? a : a < 25 ? a - 16 : a == 25 ? 0 : a == 26 ? 8 : 15;
            int to = a < 25 ? (from + 1) % 16 : a == 25 ? 8 : 0;
            int[] want = {from, to, a < 16 ? 1 : 60, a < 16 || a == 26 ? -1 : a == 27 ? 0 : 999, a == 26 ? 1 : 0, a == 25 || a == 26 ? 1 : 0};
            for (int what = 0; what < 6; what++) {
                due("full, alley(" + a + ", " + what + ")", x.alley(a, what), want[what]);
            }
        }
        int[][] streets = {{0, 1, 2, 3, 4, 5}, {6, 7}, {8, 9}, {10, 11}, {12, 13}, {26, 27}};
        for (int s = 0; s < 6; s++) {
            for (int i = 0; i < 7; i++) {
                due("full, street(" + s + ", " + i + ")", x.street(s, i), i < streets[s].length ? streets[s][i] : -1);
            }
        }
        for (int j = 0; j < 10; j++) {
            int[] want = {0, 15 - j, 99, Math.min(15 - j, 1 + j)};
            for (int what = 0; what < 4; what++) {
                due("full, journey(" + j + ", " + what + ")", x.journey(j, what), want[what]);
            }
        }
    }

    // ---- texts

    private static void textsBehindOthers() {
        for (String first : TEXTS) {
            for (String second : TEXTS) {
                for (String third : TEXTS) {
                    for (int part = 0; part < 3; part++) {
                        OneWays x = new OneWays();
                        TestKit.tell(x, first);
                        x.show(0);
                        TestKit.tell(x, second);
                        x.show(1);
                        TestKit.tell(x, third);
                        same(third + " behind " + second + " behind " + first, x, TestKit.town(third), part);
                    }
                }
            }
        }
    }

    /** A text with a FAULT leaves nothing in the TOWN that is told behind it. */
    private static void faultsBetween() {
        String[] faulty = {FullTown.text() + " #", "grid 4 by 4 min 60; street 0 1 2 3 4 5 6;", "grid 2 by 2 min 1; street 0 1; street 2",
            "corners 9; house 8; alley 8 7 min 6 price 5 told against; journey 8 8", "house 0; house"};
        for (String fault : faulty) {
            for (String text : TEXTS) {
                for (int part = 0; part < 3; part++) {
                    OneWays x = new OneWays();
                    due("text() of " + fault, TestKit.tell(x, fault), -4);
                    TestKit.tell(x, text);
                    same(text + " behind the FAULT of " + fault, x, TestKit.town(text), part);
                    x = TestKit.town(text);
                    due("text() of " + fault, TestKit.tell(x, fault), -4);
                    same(text + " ahead of the FAULT of " + fault, x, TestKit.town(text), part);
                }
            }
        }
    }

    // ---- IMAGES

    /** A TOWN with ways of its own in both GIVINGS. */
    private static OneWays kept(String text) {
        OneWays x = TestKit.town(text);
        giveSome(x);
        return x;
    }

    private static void giveSome(OneWays x) {
        x.show(0);
        for (int a = 0; a < x.count(2); a++) {
            x.give(1, a, a % 4);
        }
    }

    private static void imagesAmongOthers() {
        for (String text : TEXTS) {
            for (String other : TEXTS) {
                for (int part = 0; part < 3; part++) {
                    OneWays x = kept(text);
                    int k = part;
                    due("keep(" + k + ")", x.keep(k), 0);
                    TestKit.tell(x, other);
                    giveSome(x);
                    due("keep of another", x.keep((k + 1) % 3), 0);
                    due("back(" + k + ")", x.back(k), 0);
                    same("IMAGE of " + text + " behind " + other, x, kept(text), part);
                }
            }
        }
    }

    /** An IMAGE stays as it was kept, and another one in its place leaves nothing of it. */
    private static void imagesOfImages() {
        for (String text : TEXTS) {
            for (int part = 0; part < 3; part++) {
                OneWays x = kept(FullTown.text());
                x.keep(1);
                TestKit.tell(x, text);
                giveSome(x);
                due("keep in place of another", x.keep(1), 0);
                x.clear(0);
                x.clear(1);
                due("back(1)", x.back(1), 0);
                x.clear(0);
                due("back(1) again", x.back(1), 0);
                same("IMAGE of " + text + " in place of a full one", x, kept(text), part);
            }
        }
        OneWays x = new OneWays();
        due("keep of a new object", x.keep(0), 0);
        TestKit.tell(x, FullTown.text());
        x.keep(2);
        due("back to nothing told", x.back(0), 0);
        TestKit.dueText("facts of nothing told", facts(x), facts(new OneWays()));
        due("back to the full one", x.back(2), 0);
        TestKit.dueText("facts of the full one", facts(x), facts(FullTown.empty()));
    }

    // ---- rows, TAPES

    /** "all 0 (in place of another one)": a full row, and then a row of each WIDTH and many sizes. */
    private static void rowsBehindOthers() {
        int[] sizes = {0, 1, 27, 28, 60};
        for (int width = 0; width < 4; width++) {
            for (int n : sizes) {
                OneWays x = FullTown.empty();
                x.row(2, 3 - width, 60);
                for (int i = 0; i < 60; i++) {
                    x.write(2, i, -1);
                }
                due("row(2, " + width + ", " + n + ")", x.row(2, width, n), 0);
                for (int a = 0; a < 28; a++) {
                    x.give(0, a, 2);
                }
                due("gives", x.gives(0, 2), n > FullTown.TOLD ? Math.min(n, 28) - 1 : n);
                due("OPEN by it", x.count(6), n > FullTown.TOLD ? Math.min(n, 28) - 1 : n);
                due("the last", x.write(2, n - 1, 0), n == 0 ? -7 : 0);
                due("behind the last", x.write(2, n, 0), -7);
                due("SLOTS that have a row", x.count(9), 1);
            }
        }
    }

    /** A TAPE that was full takes 800 bytes again, and each of its bytes is the new one. */
    private static void fullTapesAgain() {
        OneWays x = new OneWays();
        String full = "house " + "0".repeat(792) + "1;";
        for (int n = 0; n < 4; n++) {
            due("a full text", TestKit.tell(x, full), 1);
            due("the HOUSE", x.count(8), 1);
            due("the TAPE", x.count(5), 0);
            due("a full faulty text", TestKit.tell(x, "x".repeat(800)), -4);
            due("the TAPE", x.count(5), TestKit.tapeBehindFault(800));
        }
    }
}
