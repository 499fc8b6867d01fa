import java.util.List;
import java.util.Random;

/** Towns and calls by chance, each answer held against the plain Model. */
public final class OracleTest {
    private static final int OBJECTS = 250;
    private static final int TOWNS = 4;

    private final OneWays x = new OneWays();
    private final Random r;
    private Model m = new Model();
    private String name = "no town: ";
    private final Model[] keptTowns = new Model[3];
    private final int[][][] keptWays = new int[3][][];

    private OracleTest(int seed) {
        r = new Random(seed);
    }

    public static void main(String[] args) {
        for (int seed = 1; seed <= OBJECTS; seed++) {
            OracleTest test = new OracleTest(seed);
            for (int n = 0; n < TOWNS; n++) {
                test.town("object " + seed, (seed + n) % 25 == 0 ? 28 : 12);
                test.image();
            }
        }
        TestKit.finish();
    }

    private void due(String call, long got, long want) {
        TestKit.due(name + call, got, want);
    }

    private void town(String object, int mostAlleys) {
        Model told = Model.chance(r, mostAlleys);
        String text = told.text();
        if (text.length() > 800) {
            return;
        }
        m = told;
        name = object + " (" + text.replace('\n', ' ') + "): ";
        TestKit.feed(x, text);
        due("text()", x.text(), m.lines);
        facts();
        for (int round = 0; round < 4; round++) {
            for (int g = 0; g < 2; g++) {
                giveByChance(g, round);
                ending(g);
                looks(g);
                changes(g);
                sameWays(g);
            }
            over();
        }
    }

    private static int[][] copy(int[][] ways) {
        return new int[][] {ways[0].clone(), ways[1].clone()};
    }

    /** Keeps an IMAGE, goes back to one, and looks at all that it has. */
    private void image() {
        int k = r.nextInt(3);
        due("keep(" + k + ")", x.keep(k), 0);
        keptTowns[k] = m;
        keptWays[k] = copy(m.ways);
        int from = r.nextInt(3);
        due("back(" + from + ")", x.back(from), keptTowns[from] == null ? -6 : 0);
        if (keptTowns[from] != null) {
            m = keptTowns[from];
            m.ways = copy(keptWays[from]);
        }
        name = "back(" + from + ") behind " + name;
        facts();
        for (int g = 0; g < 2; g++) {
            sameWays(g);
            looks(g);
            ending(g);
        }
        over();
    }

    private void facts() {
        due("count(0)", x.count(0), m.lines);
        due("count(1)", x.count(1), m.corners);
        due("count(2)", x.count(2), m.alleys.size());
        due("count(3)", x.count(3), m.journeys.size());
        due("count(8)", x.count(8), m.house);
        due("count(10)", x.count(10), m.streets.size());
        due("count(11)", x.count(11), m.gridAlleys());
        int told = 0;
        for (int a = 0; a < m.alleys.size(); a++) {
            told += m.alleys.get(a)[4];
            for (int what = 0; what < 6; what++) {
                due("alley(" + a + ", " + what + ")", x.alley(a, what), m.alleys.get(a)[what]);
            }
        }
        due("count(4)", x.count(4), told);
        due("street behind the last", x.street(m.streets.size(), 0), -1);
        for (int s = 0; s < m.streets.size(); s++) {
            for (int i = 0; i < 7; i++) {
                List<Integer> street = m.streets.get(s);
                due("street(" + s + ", " + i + ")", x.street(s, i), i < street.size() ? street.get(i) : -1);
            }
        }
        for (int j = 0; j < m.journeys.size(); j++) {
            int[] trip = m.journeys.get(j);
            for (int what = 0; what < 3; what++) {
                due("journey(" + j + ", " + what + ")", x.journey(j, what), trip[what]);
            }
            int free = m.apart()[trip[0]][trip[1]];
            due("journey(" + j + ", 3)", x.journey(j, 3), free >= Model.FAR ? -1 : free);
        }
    }

    private void giveByChance(int g, int round) {
        if (r.nextInt(3) == 0) {
            int closed = 0;
            for (int a = 0; a < m.alleys.size(); a++) {
                closed += m.alleys.get(a)[4] == 0 && m.ways[g][a] != 0 ? 1 : 0;
            }
            due("clear(" + g + ")", x.clear(g), closed);
            m.ways[g] = m.empty();
        }
        int keep = r.nextInt(3);
        for (int a = 0; a < m.alleys.size(); a++) {
            if (round > 0 && r.nextInt(3) >= keep) {
                int way = r.nextInt(6) == 0 ? r.nextInt(6) - 1 : r.nextInt(3);
                boolean may = m.mayGive(a, way);
                due("give(" + g + ", " + a + ", " + way + ")", x.give(g, a, way), may ? m.ways[g][a] : -2);
                m.ways[g][a] = may ? way : m.ways[g][a];
            }
        }
        if (m.wide > 0 && r.nextInt(3) == 0) {
            due("known", x.known(g), m.gridAlleys());
            int a = 0;
            for (int y = 0; y < m.high; y++) {
                for (int i = 0; i < m.wide - 1; i++) {
                    m.ways[g][a++] = 1 + y % 2;
                }
            }
            for (int c = 0; c < m.wide; c++) {
                for (int i = 0; i < m.high - 1; i++) {
                    m.ways[g][a++] = 1 + c % 2;
                }
            }
        }
        if (m.wide == 0) {
            due("known", x.known(g), -6);
        }
    }

    private void ending(int g) {
        int[] w = m.ways[g];
        due("whole(" + g + ")", x.whole(g), m.whole(w) ? 1 : 0);
        due("cut(" + g + ")", x.cut(g), m.cut(w));
        due("count open", x.count(6 + g), m.open(w));
        if (m.open(w) > 10) {
            due("best", x.best(g, 0), -3);
            return;
        }
        List<int[]> endings = m.endings(w);
        due("can(" + g + ")", x.can(g), endings.isEmpty() ? 0 : 1);
        due("bar(" + g + ")", x.bar(g), m.bar(w));
        int forced = 0;
        for (int a = 0; a < w.length; a++) {
            int way = m.forcedWay(endings, w, a);
            forced |= way == 0 ? 0 : 1 << a;
            due("forcedWay(" + g + ", " + a + ")", x.forcedWay(g, a), way);
        }
        due("forced(" + g + ")", x.forced(g), endings.isEmpty() ? -1 : forced);
        if (endings.isEmpty()) {
            due("show(" + g + ")", x.show(g), -1);
            due("best(" + g + ")", x.best(g, r.nextInt(2)), -1);
            return;
        }
        int how = r.nextInt(4);
        if (how == 0) {
            due("show(" + g + ")", x.show(g), m.open(w));
            m.ways[g] = endings.get(0);
        } else if (how < 3) {
            int[] best = null;
            for (int[] e : endings) {
                best = best == null || rate(e, how) < rate(best, how) ? e : best;
            }
            due("best(" + g + ", " + (how - 1) + ")", x.best(g, how - 1), rate(best, how));
            m.ways[g] = best;
        } else if (m.open(w) > 0) {
            // A chance ending leaves more to better than the best one does.
            int[] e = endings.get(r.nextInt(endings.size()));
            for (int a = 0; a < e.length; a++) {
                x.give(g, a, e[a]);
            }
            m.ways[g] = e;
        }
        sameWays(g);
    }

    private int rate(int[] w, int how) {
        return how == 1 ? m.sum(w, false) : m.worst(w);
    }

    private void sameWays(int g) {
        for (int a = 0; a < m.alleys.size(); a++) {
            due("way(" + g + ", " + a + ")", x.way(g, a), m.ways[g][a]);
        }
    }

    private void looks(int g) {
        int[] w = m.ways[g];
        int[][] d = m.dist(w, false);
        int[][] free = m.apart();
        boolean whole = m.whole(w);
        int all = 0;
        int most = 0;
        int more = -1;
        int from = -1;
        int to = -1;
        for (int a = 0; a < m.corners; a++) {
            for (int b = 0; b < m.corners; b++) {
                due("minutes(" + g + ", " + a + ", " + b + ")", x.minutes(g, a, b), d[a][b] >= Model.FAR ? -1 : d[a][b]);
                all += d[a][b];
                most = Math.max(most, d[a][b]);
                if (a != b && d[a][b] - free[a][b] > more) {
                    more = d[a][b] - free[a][b];
                    from = a;
                    to = b;
                }
            }
        }
        due("total(" + g + ", 0)", x.total(g, 0), whole ? all : -1);
        due("total(" + g + ", 1)", x.total(g, 1), whole ? most : -1);
        due("pair(" + g + ")", x.pair(g), whole ? more : -1);
        if (whole) {
            due("paired(0)", x.paired(0), from);
            due("paired(1)", x.paired(1), to);
        }
        due("sum(" + g + ")", x.sum(g), m.sum(w, false));
        due("sumBack(" + g + ")", x.sumBack(g), m.sum(w, true));
        due("worst(" + g + ")", x.worst(g), m.worst(w));
        due("paid(" + g + ")", x.paid(g), m.paid(w));
        due("signs(" + g + ")", x.signs(g), m.signs(w));
        trips(g);
        int busy = w.length == 0 ? -1 : 0;
        for (int a = 0; a < w.length; a++) {
            due("load(" + g + ", " + a + ")", x.load(g, a), m.load(w, a));
            busy = m.load(w, a) > m.load(w, busy) ? a : busy;
            List<Integer> ring = m.ring(w, a);
            due("ring(" + g + ", " + a + ")", x.ring(g, a), ring == null ? -1 : m.minutesOf(ring));
        }
        due("busiest(" + g + ")", x.busiest(g), busy);
        int unlike = 0;
        for (int s = 0; s < m.streets.size(); s++) {
            for (int a : m.streets.get(s)) {
                unlike |= w[a] == w[m.streets.get(s).get(0)] ? 0 : 1 << s;
            }
        }
        due("alike(" + g + ")", x.alike(g), unlike);
        engine(g);
        int minutes = 1 + r.nextInt(r.nextBoolean() ? 60 : 5);
        if (m.sum(w, false) < 0) {
            due("spare", x.spare(g, minutes), -5);
        } else {
            int[] spare = m.spare(w, minutes);
            due("spare(" + g + ", " + minutes + ")", x.spare(g, minutes), spare[0]);
            due("spared(0)", x.spared(0), spare[1]);
            due("spared(1)", x.spared(1), spare[2]);
        }
        int corner = r.nextInt(m.corners);
        for (int steps = 0; steps <= 12; steps++) {
            due("walk(" + g + ", " + corner + ", " + steps + ")", x.walk(g, corner, steps), m.walk(w, corner, steps));
        }
        due("walk(" + g + ", " + corner + ", 100)", x.walk(g, corner, 100), m.walk(w, corner, 100));
    }

    private void trips(int g) {
        for (int j = 0; j < m.journeys.size(); j++) {
            due("round(" + g + ", " + j + ")", x.round(g, j), m.round(m.ways[g], j, false));
            int[] trip = m.journeys.get(j);
            List<Integer> path = m.path(m.ways[g], trip[0], trip[1]);
            for (int i = 0; i < 18; i++) {
                due("gone(" + g + ", " + j + ", " + i + ")", x.gone(g, j, i), path == null || i >= path.size() ? -1 : path.get(i));
            }
        }
    }

    private void engine(int g) {
        if (m.house < 0) {
            due("fire", x.fire(g, 0), -6);
            due("lastFire", x.lastFire(g), -6);
            due("reach", x.reach(g, 0), -6);
            return;
        }
        int[] d = m.dist(m.ways[g], true)[m.house];
        int last = 0;
        int minutes = r.nextInt(20);
        int reached = 0;
        for (int c = 0; c < m.corners; c++) {
            due("fire(" + g + ", " + c + ")", x.fire(g, c), d[c] >= Model.FAR ? -1 : d[c]);
            last = Math.min(d[c], Model.FAR) > Math.min(d[last], Model.FAR) ? c : last;
            reached |= d[c] <= minutes ? 1 << c : 0;
        }
        due("lastFire(" + g + ")", x.lastFire(g), last);
        due("reach(" + g + ", " + minutes + ")", x.reach(g, minutes), reached);
    }

    private void changes(int g) {
        if (!m.complete(m.ways[g])) {
            due("better(" + g + ")", x.better(g), -5);
            due("ended(" + g + ")", x.ended(g), -5);
            due("coin(" + g + ", 3)", x.coin(g, 3), -5);
            due("next(" + g + ", 3)", x.next(g, 3), -5);
            return;
        }
        int coin = r.nextInt(r.nextInt(4) == 0 ? 10000 : 8);
        due("next(" + g + ", " + coin + ")", x.next(g, coin), m.next(m.ways[g], coin));
        if (r.nextInt(3) > 0) {
            due("ended(" + g + ")", x.ended(g), m.turning(m.ways[g]) == null ? 1 : 0);
            due("better(" + g + ")", x.better(g), m.better(m.ways[g]));
            sameWays(g);
        }
        if (r.nextInt(3) > 0) {
            m.ways[g] = m.coin(m.ways[g], coin);
            due("coin(" + g + ", " + coin + ")", x.coin(g, coin), m.sum(m.ways[g], false));
        }
    }

    private void over() {
        due("change()", x.change(), Model.differing(m.ways[0], m.ways[1]));
        for (int j = 0; j < m.journeys.size(); j++) {
            int leave = r.nextInt(1440);
            int noon = Math.max(0, Math.min(1439, leave + r.nextInt(20) - 4));
            due("arrive(" + j + ", " + leave + ", " + noon + ")", x.arrive(j, leave, noon), m.arrive(j, leave, noon));
        }
        judge();
        int k = r.nextInt(3);
        if (!m.complete(m.ways[0])) {
            due("afternoon(" + k + ")", x.afternoon(k), -5);
        } else if (r.nextInt(2) == 0) {
            List<Integer> turned = m.afternoon(k);
            due("afternoon(" + k + ")", x.afternoon(k), turned.size());
            m.ways[1] = m.turned(m.ways[0], turned);
            sameWays(1);
        }
        sameWays(0);
    }

    private void judge() {
        int n = r.nextInt(6) == 0 ? r.nextInt(61) : m.alleys.size();
        int width = r.nextInt(4);
        due("row", x.row(1, width, n), 0);
        int[] row = new int[m.alleys.size()];
        boolean fits = n == row.length;
        for (int i = 0; i < n; i++) {
            long v = r.nextInt(40) == 0 ? r.nextLong() : r.nextInt(3);
            v = i < row.length && m.alleys.get(i)[4] == 1 && r.nextInt(20) > 0 ? 1 : v;
            v = i < row.length && m.alleys.get(i)[3] >= 0 && r.nextInt(4) == 0 ? 3 : v;
            due("write", x.write(1, i, v), 0);
            long cut = width == 0 ? v & 255 : width == 1 ? v & 65535 : width == 2 ? v & 0xffffffffL : v;
            if (i < row.length) {
                fits &= m.mayStand(i, cut);
                row[i] = cut >= 0 && cut <= 3 ? (int) cut : 9;
            }
        }
        due("judge(1, 0)", x.judge(1, 0), fits ? 1 : 0);
        long[] want = fits ? new long[] {m.whole(row) ? 1 : 0, m.sum(row, false), m.worst(row), m.signs(row),
                Model.differing(m.ways[0], row), m.paid(row)} : new long[] {-1, -1, -1, -1, -1, -1};
        for (int what = 1; what <= 6; what++) {
            due("judge(1, " + what + ")", x.judge(1, what), want[what - 1]);
        }
        if (r.nextInt(3) == 0) {
            int given = 0;
            int g = r.nextInt(2);
            for (int i = 0; i < Math.min(n, row.length); i++) {
                if (m.mayGive(i, row[i])) {
                    given++;
                    m.ways[g][i] = row[i];
                }
            }
            due("gives(" + g + ", 1)", x.gives(g, 1), given);
            sameWays(g);
        }
    }
}
