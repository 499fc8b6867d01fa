/**
 * Sentences of the document that could be read in two ways, each held to its words; NOTES.md has the list of them.
 */
public final class WordsTest {
    private static final String TOWN = "corners 3; alley 0 1 min 5 price 7; alley 1 2 min 4 told; alley 2 0 min 6; street 0 2;"
            + " journey 1 0 carts 2; house 1;";

    public static void main(String[] args) {
        textWithFault();
        tapeBehindFault();
        textWithout();
        spareOfTheSum();
        spareAtMost();
        clearedOnes();
        alleyOfStreet();
        pasteBeyond();
        pasteOfNone();
        minutesToItself();
        placeOfTheEnd();
        oneWayInStreets();
        pairsAreTwo();
        tenOpenFirst();
        TestKit.finish();
    }

    private static void due(String call, long got, long want) {
        TestKit.due(call, got, want);
    }

    /** A TOWN with ways, an IMAGE, rows, and a pair and CORNERS that were told. */
    private static OneWays used() {
        OneWays x = TestKit.town(TOWN);
        x.keep(1);
        x.show(0);
        x.give(1, 0, 3);
        x.row(2, 1, 5);
        x.pair(0);
        x.spare(0, 3);
        return x;
    }

    private static String seen(OneWays x) {
        StringBuilder all = new StringBuilder();
        for (int what = 0; what < 12; what++) {
            all.append(' ').append(x.count(what));
        }
        for (int a = 0; a < 3; a++) {
            all.append(" /");
            for (int what = 0; what < 6; what++) {
                all.append(' ').append(x.alley(a, what));
            }
            all.append(' ').append(x.way(0, a)).append(' ').append(x.way(1, a)).append(' ').append(x.street(0, a));
        }
        for (int what = 0; what < 4; what++) {
            all.append(" / ").append(x.journey(0, what)).append(' ').append(x.paired(what)).append(' ').append(x.spared(what));
        }
        return all.append(x.gives(3, 2)).append(x.judge(2, 0)).append(x.judge(1, 0)).toString();
    }

    /** "The TAPE (empty then) is the TOWN: how many LINES; .. -4: a FAULT (all stays)." */
    private static void textWithFault() {
        String[] texts = {"#", "corners 1;", "corners 16; alley 15 14 min 60; alley 0 0 min 1;", "grid 4 by 4 min 9; street 0 0;", "house 0;house 1;"};
        for (String text : texts) {
            OneWays x = used();
            TestKit.feed(x, text);
            String before = seen(x);
            due("text() of " + text, x.text(), -4);
            TestKit.dueText("all stays behind " + text, seen(x), before);
            int fault = x.fault(0);
            int place = x.fault(1);
            due("the same TAPE has the same FAULT", x.text(), -4);
            due("the FAULT of " + text, x.fault(0), fault);
            due("its place in " + text, x.fault(1), place);
            TestKit.dueText("all stays behind it again", seen(x), before);
            due("the IMAGE is kept", x.back(1), 0);
            due("the IMAGE has all OPEN", x.count(6), 2);
        }
    }

    /** The TAPE stays, so that it can be cut, or gone on with. */
    private static void tapeBehindFault() {
        OneWays x = new OneWays();
        TestKit.feed(x, "alley 0 1 min 5; alley 0 7 min 5;   journey ");
        due("a FAULT", x.text(), -4);
        due("the FAULT", x.fault(0), 2);
        due("its place", x.fault(1), 25);
        due("the TAPE stays", x.count(5), 44);
        due("cut ahead of the FAULT", x.end(16), 16);
        due("one LINE", x.text(), 1);
        due("empty then", x.count(5), 0);
        due("no FAULT", x.fault(0), 0);

        TestKit.feed(x, "house           ");
        due("it ends too early", x.text(), -4);
        due("at the end", x.fault(1), 16);
        due("twenty bytes come behind it", x.feed(0x20202031, 0x3b202020, 0x20202020, 0x20202020, 0x20202020), 36);
        due("now it is whole", x.text(), 1);
        due("the HOUSE", x.count(8), 1);
    }

    /** "The TAPE (empty then) is the TOWN: how many LINES; both GIVINGS are empty then (OPEN, but for what is told)." */
    private static void textWithout() {
        OneWays x = used();
        due("seven LINES", TestKit.tell(x, TOWN), 7);
        due("the TAPE is empty then", x.count(5), 0);
        for (int g = 0; g < 2; g++) {
            due("OPEN", x.way(g, 0), 0);
            due("told", x.way(g, 1), 1);
            due("OPEN", x.way(g, 2), 0);
        }
        due("the empty TAPE is a TOWN", x.text(), 0);
        due("without ALLEYS", x.count(2), 0);
    }

    /** "What a new ALLEY of so many minutes (1 .. 60), BOTH, between two CORNERS would spare of the SUM at most." */
    private static void spareOfTheSum() {
        OneWays x = TestKit.town("corners 4; alley 0 1 min 10 told; alley 1 2 min 10 told; alley 2 3 min 10 told; alley 3 0 min 10 told;"
                + " journey 1 0 carts 3;");
        due("SUM", x.sum(0), 3 * (30 - 10));
        due("of ten minutes it spares all of it", x.spare(0, 10), 60);
        due("between", x.spared(0), 0);
        due("between", x.spared(1), 1);
        due("of nineteen", x.spare(0, 19), 33);
        due("of twenty-nine", x.spare(0, 29), 3);
        due("of thirty", x.spare(0, 30), 0);
        due("SUM stays", x.sum(0), 60);
        due("no ALLEY comes", x.count(2), 4);
        due("minutes if all ALLEYS were BOTH stay those of the TOWN", x.spare(0, 4), 3 * (30 - 4));
        due("they do", x.journey(0, 3), 10);
    }

    /** "at most": of all pairs the one by which it is the most, for all JOURNEYS together, both ways. */
    private static void spareAtMost() {
        OneWays x = TestKit.town("corners 4; alley 0 1 min 10 told; alley 1 2 min 10 told; alley 2 3 min 10 told; alley 3 0 min 10 told;"
                + " journey 1 0 carts 1; journey 0 3 carts 1; journey 3 1 carts 1;");
        // 30, 30 and 20 minutes: between 0 and 1, or 0 and 3, one of 25 and two of 5 are spared; between 1 and 3 each time 15.
        due("spare", x.spare(0, 5), 15 + 15 + 15);
        due("between", x.spared(0), 1);
        due("between", x.spared(1), 3);
        x = TestKit.town("corners 3; alley 1 2 min 9; alley 2 1 min 9; journey 1 2 carts 4; journey 2 1 carts 5;");
        x.give(0, 0, 1);
        x.give(0, 1, 1);
        due("there and back", x.spare(0, 2), 7 * 9);
        due("between", x.spared(0), 1);
        due("between", x.spared(1), 2);
    }

    /** "All OPEN again but what is told: how many were not." */
    private static void clearedOnes() {
        OneWays x = TestKit.town("alley 0 1 min 1 told; alley 0 1 min 1 price 0; alley 0 1 min 1; alley 0 1 min 1; alley 0 1 min 1 price 1 told;");
        due("told ones are not OPEN, and don't become so", x.clear(0), 0);
        x.give(0, 1, 3);
        x.give(0, 3, 2);
        due("BOTH and one way", x.clear(0), 2);
        for (int a = 0; a < 5; a++) {
            due("way(0, " + a + ")", x.way(0, a), a == 0 || a == 4 ? 1 : 0);
        }
        due("none more", x.clear(0), 0);
    }

    /** "2 .. an ALLEY that is of a STREET": of another, or of the one that is being told. */
    private static void alleyOfStreet() {
        String alleys = "corners 2; alley 0 1 min 1; alley 0 1 min 1; alley 0 1 min 1; ";
        String[] streets = {"street 0 0;", "street 0 1 0;", "street 1 1;", "street 0 1 2 2;", "street 0 1; street 2 1;", "street 0 1; street 1 2;"};
        int[] places = {9, 11, 9, 13, 21, 19};
        for (int i = 0; i < streets.length; i++) {
            OneWays x = new OneWays();
            due("text() of " + streets[i], TestKit.tell(x, alleys + streets[i]), -4);
            due("the FAULT of " + streets[i], x.fault(0), 2);
            due("its place in " + streets[i], x.fault(1), alleys.length() + places[i]);
        }
        due("each once", TestKit.tell(new OneWays(), alleys + "street 2 0 1;"), 5);
    }

    /** "-7, and nothing happens: some are beyond their rows, or a place or n is below 0." */
    private static void pasteBeyond() {
        int[][] refused = {{0, 0, 4}, {1, 0, 3}, {3, 0, 1}, {0, 3, 3}, {0, 4, 2}, {0, 5, 1}, {-1, 0, 1}, {0, -1, 1}, {0, 0, -1}, {-1, 0, 0},
            {0, -1, 0}, {-1, -1, 2}, {3, 5, -1}, {Integer.MAX_VALUE, 0, 1}, {0, Integer.MAX_VALUE, Integer.MAX_VALUE},
            {1, 1, Integer.MAX_VALUE}, {Integer.MIN_VALUE, 0, 1}, {0, Integer.MIN_VALUE, 0}, {0, 0, Integer.MIN_VALUE}};
        for (int[] r : refused) {
            OneWays x = rows();
            due("paste(0, " + r[0] + ", 1, " + r[1] + ", " + r[2] + ")", x.paste(0, r[0], 1, r[1], r[2]), -7);
            dueRow("nothing happens", x, 0, 1, 2, 1);
            dueRow("nothing happens", x, 1, 0, 0, 0, 0, 0);
        }
        OneWays x = rows();
        due("all, to the end", x.paste(0, 0, 1, 2, 3), 0);
        dueRow("all, to the end", x, 1, 0, 0, 1, 2, 1);
    }

    /** No number at all: it may stand at a row's end, but not beyond it, as a part of a row does. */
    private static void pasteOfNone() {
        OneWays x = rows();
        due("at both ends", x.paste(0, 3, 1, 5, 0), 0);
        due("at the beginnings", x.paste(0, 0, 1, 0, 0), 0);
        due("beyond the one", x.paste(0, 4, 1, 0, 0), -7);
        due("beyond the other", x.paste(0, 0, 1, 6, 0), -7);
        dueRow("nothing happens", x, 0, 1, 2, 1);
        dueRow("nothing happens", x, 1, 0, 0, 0, 0, 0);
    }

    private static OneWays rows() {
        OneWays x = new OneWays();
        x.row(0, 2, 3);
        x.row(1, 2, 5);
        x.write(0, 0, 1);
        x.write(0, 1, 2);
        x.write(0, 2, 1);
        return x;
    }

    /** What a row has can be seen by the ways that it gives. */
    private static void dueRow(String call, OneWays x, int slot, int... want) {
        TestKit.tell(x, "alley 0 1 min 1; ".repeat(want.length));
        due(call + ", as many numbers", x.judge(slot, 0), 1);
        due(call + ", gives", x.gives(0, slot), want.length);
        for (int i = 0; i < want.length; i++) {
            due(call + ", number " + i + " of SLOT " + slot, x.way(0, i), want[i]);
        }
    }

    /** "Minutes from a CORNER to another by a GIVING": one who is there needs none. */
    private static void minutesToItself() {
        due("minutes(0, 1, 1)", TestKit.town("alley 0 1 min 3;").minutes(0, 1, 1), 0);
        due("without an ALLEY", new OneWays().minutes(1, 0, 0), 0);
        due("there is none such", new OneWays().minutes(1, 2, 2), -2);
    }

    /** "by its place (a TOKEN's first byte; the end's)": the end of the TAPE, blanks ahead of it or not. */
    private static void placeOfTheEnd() {
        for (String blanks : new String[] {"", " ", "\n\n  \n"}) {
            OneWays x = new OneWays();
            due("no ;", TestKit.tell(x, "corners 3" + blanks), -4);
            due("FAULT", x.fault(0), 1);
            due("the end", x.fault(1), 9 + blanks.length());
        }
    }

    /** "STREETS whose ALLEYS do not all have one way": one and the same, be it OPEN or BOTH. */
    private static void oneWayInStreets() {
        OneWays x = TestKit.town("alley 0 1 min 1 price 1; alley 1 0 min 1 price 1; street 1 0;");
        for (int first = 0; first < 4; first++) {
            for (int second = 0; second < 4; second++) {
                x.give(1, 0, first);
                x.give(1, 1, second);
                due("alike(1) of " + first + ", " + second, x.alike(1), first == second ? 0 : 1);
            }
        }
    }

    /** "Of all pairs of CORNERS (from, to)": a CORNER alone is no pair. */
    private static void pairsAreTwo() {
        OneWays x = TestKit.town("corners 3; alley 0 1 min 1; alley 1 2 min 1;");
        due("none goes round", x.pair(0), 0);
        due("from", x.paired(0), 0);
        due("to", x.paired(1), 1);
    }

    /** "-3: more than ten are OPEN; NONE, and nothing happens: it can not be ended": in this order. */
    private static void tenOpenFirst() {
        OneWays x = TestKit.town("corners 3; " + "alley 0 1 min 1; ".repeat(11));
        due("eleven", x.best(0, 0), -3);
        x.give(0, 10, 1);
        due("ten", x.best(0, 0), -1);
        due("nothing happens", x.count(6), 10);
    }
}
