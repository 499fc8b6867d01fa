import java.util.ArrayList;
import java.util.List;

/** The bounds of promises 1 to 5 and of Term I: each sentence that names one has a test of its own. */
public final class TextBoundsTest {
    private static final int BLANKS = 0x20202020;
    /** Signs that are no TOKEN. */
    private static final int STRANGE = 0x23232323;
    /** The longest LINE of each form, TOKEN by TOKEN; what stands ahead of it makes it fit. */
    private static final String[][] FORMS = {
        {"", "corners 16 ;"},
        {"", "grid 4 by 4 min 60 ;"},
        {"", "alley 0 1 min 60 price 999 told against ;"},
        {"alley 0 1 min 1 ; alley 0 1 min 1 ; alley 0 1 min 1 ; ", "street 0 1 2 ;"},
        {"", "journey 0 1 carts 99 ;"},
        {"", "house 1 ;"},
    };

    public static void main(String[] args) {
        newObject();
        feedPutsBytes();
        feedFills();
        endCuts();
        emptyTexts();
        fullTexts();
        faultsAsked();
        numberBounds();
        cornersThatThereAre();
        anotherCorner();
        manyAlleys();
        manyJourneys();
        manyStreets();
        alleysOfStreets();
        alleysThatThereAre();
        houses();
        firstLineAlone();
        gridBounds();
        optionalWords();
        cutLines();
        spoiledLines();
        everyByte();
        firstByPlace();
        leastOfOnePlace();
        TestKit.finish();
    }

    private static void due(String call, long got, long want) {
        TestKit.due(call, got, want);
    }

    private static void good(String text, int lines) {
        OneWays x = new OneWays();
        due("text() of " + text, TestKit.tell(x, text), lines);
        due("fault(0) of " + text, x.fault(0), 0);
        due("fault(1) of " + text, x.fault(1), -1);
        due("the TAPE behind " + text, x.count(5), 0);
    }

    private static void bad(String text, int fault, int place) {
        OneWays x = new OneWays();
        due("text() of " + text, TestKit.tell(x, text), -4);
        due("fault(0) of " + text, x.fault(0), fault);
        due("fault(1) of " + text, x.fault(1), place);
        due("the TAPE behind " + text, x.count(5), TestKit.tapeBehindFault(text.length()));
        due("no TOWN by " + text, x.count(0) + x.count(2) + x.count(3) + x.count(10), 0);
        due("two CORNERS behind " + text, x.count(1), 2);
    }

    // ---- promises 1 to 5

    /** "No TOWN: two CORNERS, no ALLEYS." */
    private static void newObject() {
        OneWays x = new OneWays();
        due("new, CORNER 0", x.minutes(0, 0, 0), 0);
        due("new, CORNER 1", x.minutes(1, 1, 1), 0);
        due("new, no CORNER 2", x.minutes(0, 0, 2), -2);
        due("new, not joined", x.minutes(0, 0, 1), -1);
        due("new, no ALLEY", x.way(0, 0), -1);
        due("new, no ALLEY of GIVING 1", x.way(1, 0), -1);
        due("new, no LINE", x.count(0), 0);
        due("new, the TAPE is empty", x.end(1), -1);
        for (int k = 0; k < 3; k++) {
            due("new, no IMAGE " + k, x.back(k), -6);
        }
        for (int slot = 0; slot < 4; slot++) {
            due("new, SLOT " + slot + " has nothing", x.write(slot, 0, 0), -6);
        }
    }

    /** "Twenty bytes come behind the TAPE, four of each number, the highest first". */
    private static void feedPutsBytes() {
        for (int at = 0; at < 20; at++) {
            int[] numbers = {BLANKS, BLANKS, BLANKS, BLANKS, BLANKS};
            numbers[at / 4] ^= 0x03 << 24 - 8 * (at % 4);
            OneWays x = new OneWays();
            due("feed", x.feed(numbers[0], numbers[1], numbers[2], numbers[3], numbers[4]), 20);
            due("text() with a sign at " + at, x.text(), -4);
            due("its place", x.fault(1), at);
        }
        int[] ends = {Integer.MIN_VALUE, Integer.MAX_VALUE, -1, 0};
        for (int number : ends) {
            OneWays x = new OneWays();
            due("feed(" + number + ", ..)", x.feed(number, number, number, number, number), 20);
            due("text()", x.text(), -4);
            due("fault(0)", x.fault(0), 1);
            due("fault(1)", x.fault(1), 0);
        }
    }

    private static OneWays taped(int size) {
        OneWays x = new OneWays();
        for (int n = 0; n < size; n += 20) {
            x.feed(BLANKS, BLANKS, BLANKS, BLANKS, BLANKS);
        }
        due("end(" + size + ")", x.end(size), size);
        return x;
    }

    /** "NONE, and none come, if it would have more than 800." */
    private static void feedFills() {
        for (int size = 0; size <= 800; size++) {
            OneWays x = taped(size);
            boolean fits = size + 20 <= 800;
            due("feed behind " + size, x.feed(STRANGE, BLANKS, BLANKS, BLANKS, BLANKS), fits ? size + 20 : -1);
            due("bytes behind " + size, x.count(5), fits ? size + 20 : size);
            due("text() behind " + size, x.text(), fits ? -4 : 0);
            due("its place", x.fault(1), fits ? size : -1);
        }
        OneWays x = taped(800);
        for (int n = 0; n < 3; n++) {
            due("a full TAPE", x.feed(STRANGE, STRANGE, STRANGE, STRANGE, STRANGE), -1);
        }
        due("a full TAPE has what it had", x.text(), 0);
        due("it is empty then", x.count(5), 0);
        due("and takes again", x.feed(BLANKS, BLANKS, BLANKS, BLANKS, STRANGE), 20);
        due("text()", x.text(), -4);
        due("its place", x.fault(1), 16);
    }

    /** "The TAPE has its first n bytes alone: n; NONE, and nothing happens, if it has not so many, or n is below 0." */
    private static void endCuts() {
        int[] sizes = {0, 1, 20, 333, 799, 800};
        for (int size : sizes) {
            TestKit.edges("end(n) of " + size, 0, 0, size, size, -1, n -> taped(size).end(n));
            TestKit.refusedAround("end(n) of " + size + " and nothing happens", 0, size, size, n -> {
                OneWays x = taped(size);
                x.end(n);
                return x.count(5);
            });
        }
        OneWays x = new OneWays();
        x.feed(BLANKS, BLANKS, BLANKS, BLANKS, STRANGE);
        due("ahead of the sign", x.end(16), 16);
        due("twice", x.end(16), 16);
        due("what was cut is gone", x.end(17), -1);
        due("the next comes behind what is left", x.feed(BLANKS, STRANGE, BLANKS, BLANKS, BLANKS), 36);
        due("text()", x.text(), -4);
        due("its place", x.fault(1), 20);
        due("the sign is the last", x.end(21), 21);
        due("text()", x.text(), -4);
        due("the sign is cut", x.end(20), 20);
        due("text()", x.text(), 0);
    }

    /** An empty TAPE, and one of blanks, is a TOWN of no LINES. */
    private static void emptyTexts() {
        good("", 0);
        good(" ", 0);
        good("\n", 0);
        good(" \n".repeat(400), 0);
        OneWays x = TestKit.town("corners 9; alley 0 8 min 1; journey 0 1 carts 1; house 3; alley 1 2 min 1; street 0 1;");
        due("text() of an empty TAPE", x.text(), 0);
        int[] counts = {0, 2, 0, 0, 0, 0, 0, 0, -1, 0, 0, 0};
        for (int what = 0; what < counts.length; what++) {
            due("an empty TOWN, count(" + what + ")", x.count(what), counts[what]);
        }
        due("way(0, 0)", x.way(0, 0), -1);
        due("alley(0, 0)", x.alley(0, 0), -2000000000);
        due("journey(0, 0)", x.journey(0, 0), -2000000000);
        due("street(0, 0)", x.street(0, 0), -1);
    }

    /** Texts that fill the TAPE to its last byte, and the most LINES that a TOWN can have. */
    private static void fullTexts() {
        String house = "house 1;";
        good(" ".repeat(792) + house, 1);
        good(house + "\n".repeat(792), 1);
        good("house " + "0".repeat(792) + "1;", 1);
        bad("house " + "0".repeat(792) + "2;", 2, 6);
        bad("house " + "0".repeat(792) + "1 ", 1, 800);
        bad(" ".repeat(799) + "#", 1, 799);
        bad("a".repeat(800), 1, 0);
        bad("9".repeat(800), 1, 0);
        bad(";".repeat(800), 1, 0);
        String most = "corners16;" + "alley0 1min1;".repeat(28) + "street0 1;street2 3;street4 5;street6 7;street8 9;street10 11;"
                + "journey0 1carts1;".repeat(10) + "house1;";
        good(most, 46);
        OneWays x = TestKit.town(most);
        due("LINES", x.count(0), 46);
        due("ALLEYS", x.count(2), 28);
        due("JOURNEYS", x.count(3), 10);
        due("STREETS", x.count(10), 6);
    }

    /** "Of the latest text() .. NONE for another what, and ahead of any (what 1)." */
    private static void faultsAsked() {
        TestKit.edges("fault(what) ahead of any", 0, 0, 1, -1, -1, what -> new OneWays().fault(what));
        TestKit.edges("fault(what) behind a FAULT", 0, 2, 1, 6, -1, what -> {
            OneWays x = new OneWays();
            TestKit.tell(x, "house 2;");
            return x.fault(what);
        });
        TestKit.edges("fault(what) behind a good one", 0, 0, 1, -1, -1, what -> {
            OneWays x = new OneWays();
            TestKit.tell(x, "house 2;");
            TestKit.tell(x, "house 1;");
            return x.fault(what);
        });
        OneWays x = new OneWays();
        TestKit.tell(x, "house 2;");
        TestKit.tell(x, "  #");
        due("the latest FAULT", x.fault(0), 1);
        due("the latest place", x.fault(1), 2);
        x.keep(0);
        x.end(0);
        x.feed(0, 0, 0, 0, 0);
        x.back(0);
        due("other calls leave it", x.fault(0), 1);
        due("other calls leave it", x.fault(1), 2);
    }

    // ---- Term I, the bounds of numbers

    /** The number in the middle is good from the least to the greatest, else FAULT 2 at its place. */
    private static void bounds(String ahead, String behind, int least, int greatest) {
        int lines = signs(ahead) + signs(behind);
        good(ahead + least + behind, lines);
        good(ahead + greatest + behind, lines);
        good(ahead + "000" + least + behind, lines);
        good(ahead + "00000000000000000000000" + greatest + behind, lines);
        if (least > 0) {
            bad(ahead + (least - 1) + behind, 2, ahead.length());
            bad(ahead + "000" + behind, 2, ahead.length());
        }
        beyond(ahead, behind, least, greatest);
    }

    private static int signs(String text) {
        return text.length() - text.replace(";", "").length();
    }

    /** One too many, and great numbers that would be small if they wrapped around. */
    private static void beyond(String ahead, String behind, int least, int greatest) {
        String[] numbers = {String.valueOf(greatest + 1), String.valueOf(greatest + 256), String.valueOf(greatest + 65536),
                String.valueOf(least + (1L << 31)), String.valueOf(least + (1L << 32)), String.valueOf(greatest + (1L << 32)),
                "2147483647", "2147483648", "4294967295", "9223372036854775807", "9223372036854775808",
                new java.math.BigInteger("18446744073709551616").add(java.math.BigInteger.valueOf(least)).toString(),
                "1" + "0".repeat(100), "9".repeat(300)};
        for (String number : numbers) {
            bad(ahead + number + behind, 2, ahead.length());
        }
    }

    private static void numberBounds() {
        bounds("corners ", ";", 2, 16);
        bounds("grid ", " by 3 min 7;", 2, 4);
        bounds("grid 3 by ", " min 7;", 2, 4);
        bounds("grid 3 by 3 min ", ";", 1, 60);
        bounds("alley 0 1 min ", ";", 1, 60);
        bounds("alley 0 1 min ", " price 3 told against;", 1, 60);
        bounds("alley 0 1 min 5 price ", ";", 0, 999);
        bounds("alley 0 1 min 5 price ", " told;", 0, 999);
        bounds("journey 0 1 carts ", ";", 1, 99);
        OneWays x = TestKit.town("alley 0 1 min 0060 price 000999; alley 1 0 min 1 price 0; journey 0 1 carts 099;");
        due("min 60", x.alley(0, 2), 60);
        due("price 999", x.alley(0, 3), 999);
        due("min 1", x.alley(1, 2), 1);
        due("price 0", x.alley(1, 3), 0);
        due("carts 99", x.journey(0, 2), 99);
    }

    /** "A, B: CORNERS that there are by the LINES ahead", two without such a LINE. */
    private static void cornersThatThereAre() {
        good("alley 0 1 min 5;", 1);
        good("alley 1 0 min 5;", 1);
        beyond("alley ", " 1 min 5;", 0, 1);
        beyond("alley 0 ", " min 5;", 0, 1);
        beyond("journey ", " 1 carts 5;", 0, 1);
        beyond("journey 0 ", " carts 5;", 0, 1);
        bounds("house ", ";", 0, 1);
        bounds("corners 2; house ", ";", 0, 1);
        for (int corners = 3; corners <= 16; corners++) {
            String ahead = "corners " + corners + ";";
            bounds(ahead + "alley ", " 1 min 5;", 0, corners - 1);
            bounds(ahead + "alley 0 ", " min 5;", 1, corners - 1);
            bounds(ahead + "journey ", " 1 carts 5;", 0, corners - 1);
            bounds(ahead + "journey 0 ", " carts 5;", 1, corners - 1);
            bounds(ahead + "house ", ";", 0, corners - 1);
        }
    }

    /** "B another one than A". */
    private static void anotherCorner() {
        for (int c = 0; c < 16; c++) {
            String alley = "corners 16;alley " + c + " ";
            bad(alley + c + " min 5;", 2, alley.length());
            bad(alley + "00" + c + " min 5;", 2, alley.length());
            String journey = "corners 16;journey " + c + " ";
            bad(journey + c + " carts 5;", 2, journey.length());
            good(journey + (c + 1) % 16 + " carts 5;", 2);
            good(alley + (c + 15) % 16 + " min 5;", 2);
        }
    }

    // ---- Term I, how many there may be

    /** "ALLEYS 0 .. (28 at most)"; "3 a 29th ALLEY .. at its first TOKEN". */
    private static void manyAlleys() {
        String alley = "alley 0 1 min 1;";
        good(alley.repeat(27), 27);
        good(alley.repeat(28), 28);
        bad(alley.repeat(29), 3, 28 * alley.length());
        bad(alley.repeat(28) + " \n " + alley, 3, 28 * alley.length() + 3);
        for (int wide = 2; wide <= 4; wide++) {
            for (int high = 2; high <= 4; high++) {
                String grid = "grid " + wide + " by " + high + " min 1;";
                int more = 28 - ((wide - 1) * high + wide * (high - 1));
                good(grid + alley.repeat(more), 1 + more);
                bad(grid + alley.repeat(more + 1), 3, grid.length() + more * alley.length());
            }
        }
    }

    /** "JOURNEYS 0 .. (10 at most)"; "an 11th JOURNEY .. at its first TOKEN". */
    private static void manyJourneys() {
        String journey = "journey 0 1 carts 1;";
        good(journey.repeat(9), 9);
        good(journey.repeat(10), 10);
        bad(journey.repeat(11), 3, 10 * journey.length());
        bad(journey.repeat(10) + "\njourney", 3, 10 * journey.length() + 1);
    }

    /** "STREETS 0 .. (6 at most)"; "a 7th STREET .. at its first TOKEN". */
    private static void manyStreets() {
        StringBuilder text = new StringBuilder("grid 4 by 4 min 1;");
        for (int s = 0; s < 6; s++) {
            text.append("street ").append(2 * s).append(' ').append(2 * s + 1).append(";");
            good(text.toString(), 2 + s);
        }
        int place = text.length();
        bad(text + "street 12 13;", 3, place);
        bad(text + "  street", 3, place + 2);
        good(text + "house 0;", 8);
    }

    /** "2 .. 6 in one, none in two"; "a seventh ALLEY of a STREET, at its TOKEN". */
    private static void alleysOfStreets() {
        String text = "grid 4 by 4 min 1;street";
        bad(text + ";", 1, 24);
        bad(text + " 0;", 1, 26);
        StringBuilder street = new StringBuilder(text + " 0");
        for (int a = 1; a < 6; a++) {
            street.append(' ').append(a);
            good(street + ";", 2);
        }
        bad(street + " 6;", 3, street.length() + 1);
        bad(street + " 6 7 8 9;", 3, street.length() + 1);
        bad(street + " 6", 3, street.length() + 1);
        bad(street + "", 1, street.length());
        for (int twice = 0; twice < 6; twice++) {
            bad(street + "; street 20 " + twice + ";", 2, street.length() + 12);
            bad(street + "; street " + twice + " 20;", 2, street.length() + 9);
        }
        bad(text + " 3 3;", 2, 27);
        bad(text + " 3 4 3;", 2, 29);
        good(street + "; street 6 7;", 3);
        OneWays x = TestKit.town("grid 4 by 4 min 1;street 23 0 22 1 21 2;");
        int[] members = {23, 0, 22, 1, 21, 2, -1};
        for (int i = 0; i < members.length; i++) {
            due("street(0, " + i + ")", x.street(0, i), members[i]);
        }
    }

    /** "S: ALLEYS that there are by the LINES ahead". */
    private static void alleysThatThereAre() {
        bad("street 0 1;", 2, 7);
        bad("alley 0 1 min 1; street 0 1;", 2, 26);
        bad("alley 0 1 min 1; street 0 1; alley 0 1 min 1;", 2, 26);
        good("alley 0 1 min 1; alley 0 1 min 1; street 0 1;", 3);
        String many = "alley 0 1 min 1;".repeat(28);
        good(many + "street 26 27;", 29);
        beyond(many + "street 26 ", ";", 0, 27);
        good(many + "street 0 1;", 29);
        beyond(many + "street ", " 1;", 0, 27);
        for (int alleys = 2; alleys <= 28; alleys++) {
            String ahead = "alley 0 1 min 1;".repeat(alleys) + "street 0 ";
            good(ahead + (alleys - 1) + ";", alleys + 1);
            bad(ahead + alleys + ";", 2, ahead.length());
        }
        bad(many + "street 0 32;", 2, many.length() + 9);
        bad(many + "street 0 33;", 2, many.length() + 9);
    }

    /** "a second house, at its first TOKEN". */
    private static void houses() {
        good("house 0;", 1);
        good("house 1;", 1);
        bad("house 1; house 1;", 3, 9);
        bad("house 0; house", 3, 9);
        bad("house 0; alley 0 1 min 1; house 5;", 3, 26);
    }

    /** "(corners, grid stand in the first LINE alone)". */
    private static void firstLineAlone() {
        good("corners 3;", 1);
        good("\n \n grid 2 by 2 min 1;", 1);
        String[] firsts = {"corners 3;", "grid 2 by 2 min 1;", "alley 0 1 min 1;", "journey 0 1 carts 1;", "house 0;"};
        for (String first : firsts) {
            bad(first + "corners 3;", 1, first.length());
            bad(first + " grid 2 by 2 min 1;", 1, first.length() + 1);
        }
        bad("alley 0 1 min 1;alley 0 1 min 1;street 0 1;corners 2;", 1, 43);
    }

    /** "A GRID of W by H (2 .. 4 each) has W times H CORNERS, W * y + x, and ALLEYS ahead of all others". */
    private static void gridBounds() {
        for (int wide = 2; wide <= 4; wide++) {
            for (int high = 2; high <= 4; high++) {
                String grid = "grid " + wide + " by " + high + " min 60;";
                bounds(grid + "house ", ";", 0, wide * high - 1);
                OneWays x = TestKit.town(grid + "alley 1 0 min 1;");
                List<int[]> ends = new ArrayList<>();
                for (int y = 0; y < high; y++) {
                    for (int i = 0; i < wide - 1; i++) {
                        ends.add(new int[] {wide * y + i, wide * y + i + 1});
                    }
                }
                for (int i = 0; i < wide; i++) {
                    for (int y = 0; y < high - 1; y++) {
                        ends.add(new int[] {wide * y + i, wide * (y + 1) + i});
                    }
                }
                due(grid + " CORNERS", x.count(1), wide * high);
                due(grid + " ALLEYS of the GRID", x.count(11), ends.size());
                due(grid + " ALLEYS", x.count(2), ends.size() + 1);
                for (int a = 0; a < ends.size(); a++) {
                    due(grid + " alley(" + a + ", 0)", x.alley(a, 0), ends.get(a)[0]);
                    due(grid + " alley(" + a + ", 1)", x.alley(a, 1), ends.get(a)[1]);
                    due(grid + " alley(" + a + ", 2)", x.alley(a, 2), 60);
                    due(grid + " alley(" + a + ", 3)", x.alley(a, 3), -1);
                    due(grid + " alley(" + a + ", 4)", x.alley(a, 4), 0);
                    due(grid + " alley(" + a + ", 5)", x.alley(a, 5), 0);
                }
                due(grid + " the one behind it", x.alley(ends.size(), 2), 1);
                due(grid + " known(0)", x.known(0), ends.size());
            }
        }
    }

    // ---- Term I, the form of LINES

    /** "[price N] [told] [against]": each may be left out, none may stand twice or ahead of its turn. */
    private static void optionalWords() {
        String[] words = {"price 7", "told", "against"};
        String alley = "alley 0 1 min 5";
        good(alley + ";", 1);
        for (int i = 0; i < 3; i++) {
            good(alley + " " + words[i] + ";", 1);
            for (int j = 0; j < 3; j++) {
                String two = alley + " " + words[i] + " " + words[j] + ";";
                int second = alley.length() + words[i].length() + 2;
                if (i < j) {
                    good(two, 1);
                } else {
                    bad(two, 1, second);
                }
                for (int k = 0; k < 3; k++) {
                    String three = alley + " " + words[i] + " " + words[j] + " " + words[k] + ";";
                    int third = second + words[j].length() + 1;
                    if (i < j && j < k) {
                        good(three, 1);
                    } else {
                        bad(three, 1, i < j ? third : second);
                    }
                }
            }
        }
        bad(alley + " price;", 1, alley.length() + 6);
        bad(alley + " price told;", 1, alley.length() + 7);
    }

    private static List<Integer> starts(String line) {
        List<Integer> starts = new ArrayList<>();
        for (int i = 0; i < line.length(); i++) {
            if (line.charAt(i) != ' ' && (i == 0 || line.charAt(i - 1) == ' ')) {
                starts.add(i);
            }
        }
        return starts;
    }

    /** A text that ends inside a LINE: FAULT 1 at the end's place, blanks behind the last TOKEN counted. */
    private static void cutLines() {
        for (String[] form : FORMS) {
            String whole = form[0] + form[1];
            due("text() of " + whole, TestKit.town(whole).fault(0), 0);
            for (int start : starts(form[1])) {
                if (start > 0) {
                    String cut = form[0] + form[1].substring(0, start);
                    bad(cut, 1, cut.length());
                    bad(cut.stripTrailing(), 1, cut.stripTrailing().length());
                    bad(cut + "\n \n", 1, cut.length() + 3);
                }
            }
        }
    }

    /** "1 a TOKEN that is none, or can't stand there", in place of each TOKEN of each form. */
    private static void spoiledLines() {
        String[] others = {"#", "x", "\u00e9", "\u0000", "\t", "Z", "corner", "alleys", "ALLEY", "-1", "+1", ".5", "_"};
        for (String[] form : FORMS) {
            for (int start : starts(form[1])) {
                int stop = form[1].indexOf(' ', start);
                String ahead = form[0] + form[1].substring(0, start);
                String behind = stop < 0 ? "" : form[1].substring(stop);
                for (String other : others) {
                    bad(ahead + other + behind, 1, ahead.length());
                }
                // The sign may stand, or a number be another ALLEY, behind the second ALLEY of a STREET.
                boolean mayEnd = form[1].startsWith("street") && ahead.endsWith("0 1 ");
                boolean mayGoOn = form[1].startsWith("street") && stop < 0;
                if (Character.isDigit(form[1].charAt(start))) {
                    bad(ahead + ";" + behind, 1, mayEnd ? ahead.length() + 2 : ahead.length());
                } else {
                    bad(ahead + "7" + behind, mayGoOn ? 2 : 1, ahead.length());
                }
            }
        }
    }

    /** "TOKENS, blanks (32, 10) aside": each of all bytes, alone and behind a number. */
    private static void everyByte() {
        for (int b = 0; b < 256; b++) {
            String sign = String.valueOf((char) b);
            boolean blank = b == 32 || b == 10;
            if (blank) {
                good(sign, 0);
            } else {
                bad(sign, 1, 0);
            }
            String house = "house 1" + sign + ";";
            if (blank) {
                good(house, 1);
            } else if (b >= '0' && b <= '9') {
                bad(house, 2, 6);
            } else {
                bad(house, 1, b == ';' ? 8 : 7);
            }
            String word = "house" + sign + "1;";
            if (blank) {
                good(word, 1);
            } else if (b == '0') {
                good(word, 1);
            } else if (b >= '1' && b <= '9') {
                bad(word, 2, 5);
            } else {
                bad(word, 1, b >= 'a' && b <= 'z' ? 0 : 5);
            }
        }
        good("corners3;alley0 1min5price7told against;journey2 0carts9;house2;", 4);
        good("corners 3 ; \n alley \n 0 \n 1 \n min \n 5 \n ;", 2);
        bad("alley01min5;", 1, 7);
        bad("alley 0 1 min 5 toldagainst;", 1, 16);
        bad("corners 3;corners", 1, 10);
    }

    /** "FAULTS, the first by its place". */
    private static void firstByPlace() {
        bad("alley 0 0 min 0;", 2, 8);
        bad("alley 2 2 min 0 x", 2, 6);
        bad("alley 0 1 min 0 # ", 2, 14);
        bad("alley # 0 min 0;", 1, 6);
        bad("house 0; house 9; #", 3, 9);
        bad("house 9; house 9; #", 2, 6);
        bad("# house 9;", 1, 0);
        bad("grid 5 by 5 min 61", 2, 5);
        bad("journey 0 1 carts 100", 2, 18);
        bad("journey 0 1 carts 99", 1, 20);
        String many = "journey 0 1 carts 1;".repeat(10);
        bad(many + "journey 7 7 carts 0 #", 3, many.length());
        bad(many + "journeys", 1, many.length());
    }

    /** "of one place the least". */
    private static void leastOfOnePlace() {
        String six = "grid 4 by 4 min 1; street 0 1 2 3 4 5 ";
        bad(six + "6;", 3, six.length());
        bad(six + "23;", 3, six.length());
        bad(six + "24;", 2, six.length());
        bad(six + "0;", 2, six.length());
        bad(six + "5;", 2, six.length());
        bad(six + "99999999999;", 2, six.length());
        bad(six + "x;", 1, six.length());
        bad(six + "#", 1, six.length());
        bad(six, 1, six.length());
        String taken = "grid 4 by 4 min 1; street 6 7; street 0 1 2 3 4 5 ";
        bad(taken + "7;", 2, taken.length());
        bad(taken + "8;", 3, taken.length());
        bad("house 0; grid", 1, 9);
    }
}
