/**
 * A TOWN that has as much as there may be of all: 16 CORNERS in a ring, 28 ALLEYS, 10 JOURNEYS, 6 STREETS, a HOUSE.
 * By GIVING 0 all ALLEYS go from A to B, so that minutes from a to b are (b - a) around the ring; GIVING 1 is empty.
 */
final class FullTown {
    static final int LINES = 46;
    static final int ALLEYS = 28;
    static final int TOLD = 26;
    /** Carts 99, from 0 to 15 - j: by GIVING 0 14 minutes more, 12, 10 .. 0. */
    static final int SUM = 99 * (14 + 12 + 10 + 8 + 6 + 4 + 2);

    private FullTown() {
    }

    static String text() {
        StringBuilder s = new StringBuilder("corners16;");
        for (int c = 0; c < 16; c++) {
            s.append("alley").append(c).append(' ').append((c + 1) % 16).append("min1;");
        }
        for (int c = 0; c < 9; c++) {
            s.append("alley").append(c).append(' ').append(c + 1).append("min60price999;");
        }
        s.append("alley0 8min60price999against;alley8 0min60told against;alley15 0min60price0;");
        s.append("street0 1 2 3 4 5;street6 7;street8 9;street10 11;street12 13;street26 27;");
        for (int j = 0; j < 10; j++) {
            s.append("journey0 ").append(15 - j).append("carts99;");
        }
        return s.append("house15;").toString();
    }

    static OneWays empty() {
        return TestKit.town(text());
    }

    static OneWays given() {
        OneWays x = empty();
        for (int a = 0; a < ALLEYS; a++) {
            x.give(0, a, 1);
        }
        return x;
    }

    /** All that may be asked, all the rows there, and all IMAGES kept. */
    static OneWays stuffed() {
        OneWays x = given();
        for (int slot = 0; slot < 4; slot++) {
            x.row(slot, slot, 60);
        }
        for (int k = 0; k < 3; k++) {
            x.keep(k);
        }
        return x;
    }

    /** A row in a SLOT with a way for each ALLEY. */
    static OneWays judged(int slot, int width) {
        OneWays x = given();
        x.row(slot, width, ALLEYS);
        for (int a = 0; a < ALLEYS; a++) {
            x.write(slot, a, 1);
        }
        return x;
    }
}
