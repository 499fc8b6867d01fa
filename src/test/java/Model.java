import java.util.ArrayList;
import java.util.Collections;
import java.util.List;
import java.util.Random;

/** The document's Terms in their plainest form, by trying all: what OneWays is held against. */
final class Model {
    static final int FAR = 1 << 20;

    int corners = 2;
    int house = -1;
    int wide = 0;
    int high = 0;
    int lines = 0;
    /** A, B, min, price (-1), told, against. */
    final List<int[]> alleys = new ArrayList<>();
    /** A, B, carts. */
    final List<int[]> journeys = new ArrayList<>();
    final List<List<Integer>> streets = new ArrayList<>();
    int[][] ways = new int[2][0];

    // ---- a town by chance, and its text

    static Model chance(Random r, int mostAlleys) {
        Model m = new Model();
        boolean isFull = r.nextInt(15) == 0;
        if (isFull || r.nextInt(4) == 0) {
            m.wide = isFull ? 4 : 2 + r.nextInt(3);
            m.high = isFull ? 4 : 2 + r.nextInt(3);
            m.corners = m.wide * m.high;
            int min = 1 + r.nextInt(9);
            for (int y = 0; y < m.high; y++) {
                for (int x = 0; x + 1 < m.wide; x++) {
                    m.alleys.add(new int[] {m.wide * y + x, m.wide * y + x + 1, min, -1, 0, 0});
                }
            }
            for (int x = 0; x < m.wide; x++) {
                for (int y = 0; y + 1 < m.high; y++) {
                    m.alleys.add(new int[] {m.wide * y + x, m.wide * (y + 1) + x, min, -1, 0, 0});
                }
            }
        } else {
            m.corners = r.nextInt(6) == 0 ? 2 + r.nextInt(15) : 2 + r.nextInt(5);
        }
        int more = isFull ? 4 : m.wide > 0 ? r.nextInt(4) : r.nextInt(mostAlleys + 1);
        for (int i = 0; i < more && m.alleys.size() < 28; i++) {
            int a = r.nextInt(m.corners);
            int b = (a + 1 + r.nextInt(m.corners - 1)) % m.corners;
            if (m.wide == 0 && i < m.corners && r.nextInt(3) > 0) {
                a = i;
                b = (i + 1) % m.corners;
            }
            int price = r.nextInt(2) == 0 ? -1 : r.nextInt(5) == 0 ? r.nextInt(1000) : r.nextInt(6);
            m.alleys.add(new int[] {a, b, 1 + r.nextInt(r.nextInt(8) == 0 ? 60 : 6), price,
                    r.nextInt(8) == 0 ? 1 : 0, r.nextInt(4) == 0 ? 1 : 0});
        }
        int trips = isFull ? 10 : r.nextInt(11);
        for (int i = 0; i < trips; i++) {
            int a = r.nextInt(m.corners);
            m.journeys.add(new int[] {a, (a + 1 + r.nextInt(m.corners - 1)) % m.corners, 1 + r.nextInt(r.nextInt(3) == 0 ? 99 : 4)});
        }
        List<Integer> free = new ArrayList<>();
        for (int a = 0; a < m.alleys.size(); a++) {
            free.add(a);
        }
        Collections.shuffle(free, r);
        for (int s = isFull ? 6 : r.nextInt(4); s > 0 && free.size() >= 2; s--) {
            List<Integer> street = new ArrayList<>();
            for (int n = 2 + r.nextInt(isFull ? 3 : 5); n > 0 && !free.isEmpty(); n--) {
                street.add(free.remove(0));
            }
            if (street.size() >= 2) {
                m.streets.add(street);
            }
        }
        if (r.nextInt(3) > 0) {
            m.house = r.nextInt(m.corners);
        }
        m.ways = new int[][] {m.empty(), m.empty()};
        return m;
    }

    int gridAlleys() {
        return wide == 0 ? 0 : (wide - 1) * high + wide * (high - 1);
    }

    String text() {
        StringBuilder s = new StringBuilder();
        if (wide > 0) {
            s.append("grid ").append(wide).append("by ").append(high).append(" min").append(alleys.get(0)[2]).append(";\n");
            lines++;
        } else if (corners != 2) {
            s.append("corners ").append(corners).append(" ;");
            lines++;
        }
        for (int[] a : alleys.subList(gridAlleys(), alleys.size())) {
            s.append("alley ").append(a[0]).append(' ').append(a[1]).append("min").append(a[2]);
            s.append(a[3] < 0 ? "" : "price" + a[3]).append(a[4] == 0 ? "" : "told").append(a[5] == 0 ? "" : " against").append(";");
            lines++;
        }
        for (List<Integer> street : streets) {
            s.append("street");
            for (int a : street) {
                s.append(' ').append(a);
            }
            s.append(";");
            lines++;
        }
        for (int[] j : journeys) {
            s.append("journey").append(j[0]).append(' ').append(j[1]).append("carts").append(j[2]).append(";");
            lines++;
        }
        if (house >= 0) {
            s.append("house").append(house).append(";");
            lines++;
        }
        return s.toString();
    }

    int[] empty() {
        int[] w = new int[alleys.size()];
        for (int a = 0; a < w.length; a++) {
            w[a] = alleys.get(a)[4];
        }
        return w;
    }

    boolean mayGive(int a, long way) {
        int[] alley = alleys.get(a);
        return alley[4] == 0 && way >= 0 && way <= 3 && (way != 3 || alley[3] >= 0);
    }

    boolean mayStand(int a, long way) {
        int[] alley = alleys.get(a);
        return alley[4] == 1 ? way == 1 : way >= 0 && way <= 3 && (way != 3 || alley[3] >= 0);
    }

    // ---- II

    boolean enters(int[] w, int a, int corner) {
        int[] alley = alleys.get(a);
        return alley[0] == corner && w[a] != 2 || alley[1] == corner && w[a] != 1;
    }

    int other(int a, int corner) {
        int[] alley = alleys.get(a);
        return alley[0] + alley[1] - corner;
    }

    boolean at(int a, int corner) {
        return alleys.get(a)[0] == corner || alleys.get(a)[1] == corner;
    }

    int[][] dist(int[] w, boolean engine) {
        int[][] d = new int[corners][corners];
        for (int i = 0; i < corners; i++) {
            for (int j = 0; j < corners; j++) {
                d[i][j] = i == j ? 0 : FAR;
            }
        }
        for (int a = 0; a < alleys.size(); a++) {
            int[] alley = alleys.get(a);
            for (int side = 0; side < 2; side++) {
                int u = alley[side];
                int v = alley[1 - side];
                if (enters(w, a, u)) {
                    d[u][v] = Math.min(d[u][v], alley[2]);
                } else if (engine && alley[5] == 1) {
                    d[u][v] = Math.min(d[u][v], 2 * alley[2]);
                }
            }
        }
        for (int k = 0; k < corners; k++) {
            for (int i = 0; i < corners; i++) {
                for (int j = 0; j < corners; j++) {
                    d[i][j] = Math.min(d[i][j], d[i][k] + d[k][j]);
                }
            }
        }
        return d;
    }

    int[][] apart() {
        return dist(new int[alleys.size()], false);
    }

    boolean whole(int[] w) {
        return cut(w) == 0;
    }

    int cut(int[] w) {
        int[][] d = dist(w, false);
        for (int i = 0; i < corners; i++) {
            int bits = 0;
            for (int j = 0; j < corners; j++) {
                bits |= d[i][j] < FAR ? 1 << j : 0;
            }
            if (bits != (1 << corners) - 1) {
                return bits;
            }
        }
        return 0;
    }

    int open(int[] w) {
        int n = 0;
        for (int way : w) {
            n += way == 0 ? 1 : 0;
        }
        return n;
    }

    /** All ways for the OPEN ones by which it is WHOLE, the first first. */
    List<int[]> endings(int[] w) {
        List<int[]> found = new ArrayList<>();
        end(w.clone(), 0, found);
        return found;
    }

    private void end(int[] w, int from, List<int[]> found) {
        for (int a = from; a < w.length; a++) {
            if (w[a] == 0) {
                for (int way = 1; way <= 2; way++) {
                    w[a] = way;
                    end(w, a + 1, found);
                }
                w[a] = 0;
                return;
            }
        }
        if (whole(w)) {
            found.add(w.clone());
        }
    }

    int bar(int[] w) {
        if (!whole(w)) {
            return -3;
        }
        if (!endings(w).isEmpty()) {
            return -1;
        }
        for (int a = 0; a < w.length; a++) {
            if (w[a] == 0 && !wholeWithout(a)) {
                return a;
            }
        }
        return -99;
    }

    private boolean wholeWithout(int alley) {
        Model m = new Model();
        m.corners = corners;
        for (int a = 0; a < alleys.size(); a++) {
            if (a != alley) {
                m.alleys.add(alleys.get(a));
            }
        }
        return m.whole(new int[m.alleys.size()]);
    }

    int forcedWay(List<int[]> endings, int[] w, int a) {
        if (w[a] != 0 || endings.isEmpty()) {
            return 0;
        }
        int seen = 0;
        for (int[] e : endings) {
            seen |= e[a];
        }
        return seen == 3 ? 0 : seen;
    }

    // ---- III, IV

    int round(int[] w, int j, boolean back) {
        int[] trip = journeys.get(j);
        int from = trip[back ? 1 : 0];
        int to = trip[back ? 0 : 1];
        int[][] d = dist(w, false);
        return d[from][to] >= FAR ? -1 : d[from][to] - apart()[from][to];
    }

    int sum(int[] w, boolean back) {
        int sum = 0;
        for (int j = 0; j < journeys.size(); j++) {
            int round = round(w, j, back);
            if (round < 0) {
                return -1;
            }
            sum += round * journeys.get(j)[2];
        }
        return sum;
    }

    int worst(int[] w) {
        int worst = 0;
        for (int j = 0; j < journeys.size(); j++) {
            int round = round(w, j, false);
            if (round < 0) {
                return -1;
            }
            worst = Math.max(worst, round);
        }
        return worst;
    }

    boolean complete(int[] w) {
        return whole(w) && open(w) == 0;
    }

    boolean turnable(int[] w, int a) {
        return alleys.get(a)[4] == 0 && (w[a] == 1 || w[a] == 2);
    }

    int[] turned(int[] w, List<Integer> which) {
        int[] t = w.clone();
        for (int a : which) {
            t[a] = 3 - t[a];
        }
        return t;
    }

    /** The TURNING that is due; null without one. */
    List<Integer> turning(int[] w) {
        List<List<Integer>> tries = new ArrayList<>();
        for (int i = 0; i < w.length; i++) {
            tries.add(List.of(i));
        }
        for (int i = 0; i < w.length; i++) {
            for (int j = i + 1; j < w.length; j++) {
                tries.add(List.of(i, j));
            }
        }
        for (int i = 0; i < w.length; i++) {
            if (w[i] == 1 || w[i] == 2) {
                List<Integer> ring = ring(w, i);
                if (ring != null) {
                    tries.add(ring);
                }
            }
        }
        int sum = sum(w, false);
        for (List<Integer> t : tries) {
            boolean able = true;
            for (int a : t) {
                able &= turnable(w, a);
            }
            if (able && whole(turned(w, t)) && sum(turned(w, t), false) < sum) {
                return t;
            }
        }
        return null;
    }

    int better(int[] w) {
        for (int n = 0; n < 50; n++) {
            List<Integer> t = turning(w);
            if (t == null) {
                return n;
            }
            System.arraycopy(turned(w, t), 0, w, 0, w.length);
        }
        return 50;
    }

    /** The ALLEYS of a way; null if it can't be gone. */
    List<Integer> path(int[] w, int from, int to) {
        int[][] d = dist(w, false);
        if (d[from][to] >= FAR) {
            return null;
        }
        List<Integer> path = new ArrayList<>();
        for (int at = from; at != to;) {
            int best = -1;
            for (int a = 0; a < w.length; a++) {
                if (enters(w, a, at) && (best < 0
                        || alleys.get(a)[2] + d[other(a, at)][to] < alleys.get(best)[2] + d[other(best, at)][to])) {
                    best = a;
                }
            }
            path.add(best);
            at = other(best, at);
        }
        return path;
    }

    List<Integer> ring(int[] w, int a) {
        int begin = alleys.get(a)[w[a] == 2 ? 1 : 0];
        List<Integer> back = path(w, other(a, begin), begin);
        if (back != null) {
            back.add(0, a);
        }
        return back;
    }

    int minutesOf(List<Integer> path) {
        int n = 0;
        for (int a : path) {
            n += alleys.get(a)[2];
        }
        return n;
    }

    // ---- V

    private List<Integer> payable(int[] w) {
        List<Integer> p = new ArrayList<>();
        for (int a = 0; a < w.length && p.size() < 9; a++) {
            if (turnable(w, a) && alleys.get(a)[3] >= 0) {
                p.add(a);
            }
        }
        return p;
    }

    private static int compareRows(List<Integer> x, List<Integer> y) {
        for (int i = 0; i < x.size() && i < y.size(); i++) {
            if (!x.get(i).equals(y.get(i))) {
                return x.get(i) - y.get(i);
            }
        }
        return x.size() - y.size();
    }

    private List<List<Integer>> choices(List<Integer> of) {
        List<List<Integer>> all = new ArrayList<>();
        for (int bits = 0; bits < 1 << of.size(); bits++) {
            List<Integer> c = new ArrayList<>();
            for (int i = 0; i < of.size(); i++) {
                if ((bits >> i & 1) != 0) {
                    c.add(of.get(i));
                }
            }
            all.add(c);
        }
        return all;
    }

    private int price(List<Integer> c) {
        int n = 0;
        for (int a : c) {
            n += alleys.get(a)[3];
        }
        return n;
    }

    private int[] both(int[] w, List<Integer> c) {
        int[] t = w.clone();
        for (int a : c) {
            t[a] = 3;
        }
        return t;
    }

    int[] coin(int[] w, int coin) {
        List<Integer> best = new ArrayList<>();
        for (List<Integer> c : choices(payable(w))) {
            if (price(c) <= coin) {
                int by = Integer.compare(sum(both(w, c), false), sum(both(w, best), false));
                by = by != 0 ? by : Integer.compare(price(c), price(best));
                by = by != 0 ? by : compareRows(c, best);
                best = by < 0 ? c : best;
            }
        }
        return both(w, best);
    }

    int next(int[] w, int coin) {
        int[] least = new int[10000];
        java.util.Arrays.fill(least, Integer.MAX_VALUE);
        for (List<Integer> c : choices(payable(w))) {
            least[price(c)] = Math.min(least[price(c)], sum(both(w, c), false));
        }
        for (int i = 1; i < least.length; i++) {
            least[i] = Math.min(least[i], least[i - 1]);
        }
        for (int i = coin + 1; i < least.length; i++) {
            if (least[i] < least[coin]) {
                return i;
            }
        }
        return -1;
    }

    // ---- VI

    int arrive(int j, int leave, int noon) {
        int at = journeys.get(j)[0];
        int to = journeys.get(j)[1];
        int time = leave;
        while (at != to) {
            List<Integer> path = path(ways[time < noon ? 0 : 1], at, to);
            if (path == null) {
                return -1;
            }
            time += alleys.get(path.get(0))[2];
            at = other(path.get(0), at);
        }
        return time;
    }

    List<Integer> afternoon(int k) {
        List<Integer> able = new ArrayList<>();
        for (int a = 0; a < ways[0].length; a++) {
            if (turnable(ways[0], a)) {
                able.add(a);
            }
        }
        List<Integer> best = new ArrayList<>();
        List<List<Integer>> tries = new ArrayList<>();
        for (int i = 0; i < able.size(); i++) {
            if (k >= 1) {
                tries.add(List.of(able.get(i)));
            }
            for (int j = i + 1; j < able.size(); j++) {
                if (k >= 2) {
                    tries.add(List.of(able.get(i), able.get(j)));
                }
            }
        }
        for (List<Integer> t : tries) {
            if (whole(turned(ways[0], t))) {
                int by = Integer.compare(sum(turned(ways[0], t), true), sum(turned(ways[0], best), true));
                by = by != 0 ? by : Integer.compare(t.size(), best.size());
                by = by != 0 ? by : compareRows(t, best);
                best = by < 0 ? t : best;
            }
        }
        return best;
    }

    int signs(int[] w) {
        int signs = 0;
        for (int c = 0; c < corners; c++) {
            int shut = 0;
            int free = 0;
            for (int a = 0; a < w.length; a++) {
                if (at(a, c)) {
                    if (enters(w, a, c)) {
                        free++;
                    } else {
                        shut++;
                    }
                }
            }
            signs += shut == 0 ? 0 : free == 1 ? 1 : shut;
        }
        return signs;
    }

    int walk(int[] w, int corner, int steps) {
        int at = corner;
        int came = -1;
        for (int n = 0; n < steps; n++) {
            int take = -1;
            for (int a = w.length - 1; a >= 0; a--) {
                if (a != came && enters(w, a, at)) {
                    take = a;
                }
            }
            if (take < 0 && came >= 0 && enters(w, came, at)) {
                take = came;
            }
            if (take >= 0) {
                at = other(take, at);
                came = take;
            }
        }
        return at;
    }

    int load(int[] w, int a) {
        int n = 0;
        for (int[] j : journeys) {
            List<Integer> path = path(w, j[0], j[1]);
            n += path != null && path.contains(a) ? j[2] : 0;
        }
        return n;
    }

    int paid(int[] w) {
        int n = 0;
        for (int a = 0; a < w.length; a++) {
            n += w[a] == 3 ? alleys.get(a)[3] : 0;
        }
        return n;
    }

    static int differing(int[] v, int[] w) {
        int n = 0;
        for (int a = 0; a < w.length; a++) {
            n += v[a] == w[a] ? 0 : 1;
        }
        return n;
    }

    /** What is spared, and the two CORNERS; the minutes without detour stay those of the TOWN. */
    int[] spare(int[] w, int minutes) {
        int[][] d = dist(w, false);
        int[] best = {-1, -1, -1};
        for (int u = 0; u < corners; u++) {
            for (int v = u + 1; v < corners; v++) {
                alleys.add(new int[] {u, v, minutes, 0, 0, 0});
                int[][] n = dist(java.util.Arrays.copyOf(w, w.length + 1), false);
                alleys.remove(alleys.size() - 1);
                int saved = 0;
                for (int[] j : journeys) {
                    saved += j[2] * (d[j[0]][j[1]] - n[j[0]][j[1]]);
                }
                if (saved > best[0]) {
                    best = new int[] {saved, u, v};
                }
            }
        }
        return best;
    }
}
