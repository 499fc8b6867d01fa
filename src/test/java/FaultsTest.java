import java.util.ArrayList;
import java.util.Arrays;
import java.util.List;
import java.util.Random;
import java.util.regex.Matcher;
import java.util.regex.Pattern;

/** Texts that were spoiled by chance, the FAULT held against a second reader that works by forms of LINES. */
public final class FaultsTest {
    private static final Pattern TOKEN = Pattern.compile("[a-z]+|[0-9]+|[^ \n]");
    private static final String[] WORDS = {"corners", "grid", "by", "min", "alley", "price", "told", "against", "street",
            "journey", "carts", "house", ";", ";", "x", "#", "\t", "A", "0", "1", "2", "3", "17", "61", "999", "1000", "007",
            "4294967297", "18446744073709551617", "\u00e9", "\u0000"};

    private List<String> tokens = new ArrayList<>();
    private List<Integer> places = new ArrayList<>();
    private int at = 0;
    private int fault = 0;
    private int lines = 0;
    private int corners = 2;
    private int alleys = 0;
    private int journeys = 0;
    private int streets = 0;
    private boolean house = false;
    private final List<Integer> taken = new ArrayList<>();

    public static void main(String[] args) {
        Random r = new Random(77);
        int[] seen = new int[4];
        for (int n = 0; n < 40000; n++) {
            String text = spoil(r, chanceText(r));
            if (text.length() <= 800) {
                seen[compare(text)]++;
            }
        }
        for (int f = 0; f < 4; f++) {
            TestKit.due("texts with FAULT " + f + " were tried", seen[f] > 300 ? 1 : 0, 1);
        }
        TestKit.finish();
    }

    private static String chanceText(Random r) {
        if (r.nextInt(3) > 0) {
            return Model.chance(r, 8).text();
        }
        StringBuilder crowd = new StringBuilder("grid 4by4min1;");
        String[] lines = {"alley0 1min1;", "journey0 1carts1;", "street%d %d;", "house0;", "street %d %d %d %d %d %d %d;"};
        int next = 0;
        String line = lines[r.nextInt(lines.length)];
        for (int n = r.nextInt(14); n > 0; n--) {
            line = r.nextInt(4) == 0 ? lines[r.nextInt(lines.length)] : line;
            StringBuilder full = new StringBuilder(line);
            for (int i = full.indexOf("%d"); i >= 0; i = full.indexOf("%d")) {
                full.replace(i, i + 2, String.valueOf(next++));
            }
            crowd.append(full);
        }
        return crowd.toString();
    }

    private static String spoil(Random r, String text) {
        StringBuilder s = new StringBuilder(text);
        for (int n = r.nextInt(3); n > 0 && s.length() > 0; n--) {
            Matcher m = TOKEN.matcher(s);
            List<int[]> spans = new ArrayList<>();
            while (m.find()) {
                spans.add(new int[] {m.start(), m.end()});
            }
            if (spans.isEmpty()) {
                break;
            }
            int[] span = spans.get(r.nextInt(spans.size()));
            String word = WORDS[r.nextInt(WORDS.length)];
            switch (r.nextInt(5)) {
                case 0:
                    s.delete(span[0], span[1]);
                    break;
                case 1:
                    s.insert(span[0], " " + word + " ");
                    break;
                case 2:
                    s.setLength(r.nextInt(s.length() + 1));
                    s.append(r.nextBoolean() ? "" : " \n ");
                    break;
                default:
                    boolean number = Character.isDigit(s.charAt(span[0]));
                    s.replace(span[0], span[1], number && r.nextInt(4) > 0 ? " " + r.nextInt(r.nextBoolean() ? 5 : 70) + " " : word);
            }
        }
        return s.toString();
    }

    private static int compare(String text) {
        FaultsTest want = new FaultsTest();
        int place = want.read(text);
        OneWays x = new OneWays();
        TestKit.feed(x, text);
        TestKit.due("text() of " + text, x.text(), want.fault == 0 ? want.lines : -4);
        TestKit.due("fault(0) of " + text, x.fault(0), want.fault);
        TestKit.due("fault(1) of " + text, x.fault(1), want.fault == 0 ? -1 : place);
        return want.fault;
    }

    /** The place of the FAULT. */
    private int read(String text) {
        Matcher m = TOKEN.matcher(text);
        while (m.find()) {
            tokens.add(m.group());
            places.add(m.start());
        }
        tokens.add("end of text");
        places.add(text.length());
        while (fault == 0 && at < tokens.size() - 1) {
            fault = line();
            lines++;
        }
        return places.get(at);
    }

    private int line() {
        switch (tokens.get(at)) {
            case "corners":
                return lines > 0 ? 1 : form("corners", "N2-16", ";");
            case "grid":
                return lines > 0 ? 1 : form("grid", "W2-4", "by", "H2-4", "min", "T1-60", ";");
            case "alley":
                return alleys == 28 ? 3 : form("alley", "A", "B", "min", "T1-60", "?price", "?told", "?against", ";");
            case "journey":
                return journeys == 10 ? 3 : form("journey", "A", "B", "carts", "T1-99", ";");
            case "house":
                return house ? 3 : form("house", "A", ";");
            case "street":
                return streets == 6 ? 3 : street();
            default:
                return 1;
        }
    }

    private int form(String... parts) {
        List<Integer> numbers = new ArrayList<>();
        for (String part : parts) {
            String token = tokens.get(at);
            boolean isNumber = Character.isDigit(token.charAt(0));
            if (part.startsWith("?")) {
                if (!token.equals(part.substring(1))) {
                    continue;
                }
                at++;
                if (part.equals("?price")) {
                    int bad = number(0, 999);
                    if (bad != 0) {
                        return bad;
                    }
                    at++;
                }
                continue;
            }
            if (Character.isUpperCase(part.charAt(0))) {
                int dash = part.indexOf('-');
                int low = dash < 0 ? 0 : Integer.parseInt(part.substring(1, dash));
                int high = dash < 0 ? corners - 1 : Integer.parseInt(part.substring(dash + 1));
                int bad = number(low, high);
                if (bad == 0 && part.equals("B") && Integer.parseInt(token) == numbers.get(0)) {
                    bad = 2;
                }
                if (bad != 0) {
                    return bad;
                }
                numbers.add(Integer.parseInt(token));
            } else if (isNumber || !token.equals(part)) {
                return 1;
            }
            at++;
        }
        switch (parts[0]) {
            case "corners":
                corners = numbers.get(0);
                break;
            case "grid":
                int w = numbers.get(0);
                int h = numbers.get(1);
                corners = w * h;
                alleys = (w - 1) * h + w * (h - 1);
                break;
            case "alley":
                alleys++;
                break;
            case "journey":
                journeys++;
                break;
            default:
                house = true;
        }
        return 0;
    }

    private int number(int low, int high) {
        String token = tokens.get(at);
        if (!token.matches("[0-9]+")) {
            return 1;
        }
        java.math.BigInteger n = new java.math.BigInteger(token);
        return n.compareTo(java.math.BigInteger.valueOf(low)) < 0 || n.compareTo(java.math.BigInteger.valueOf(high)) > 0 ? 2 : 0;
    }

    private int street() {
        at++;
        for (int n = 0; n < 2 || !Arrays.asList(";").contains(tokens.get(at)); n++) {
            int bad = number(0, alleys - 1);
            if (bad != 0) {
                return bad;
            }
            int alley = Integer.parseInt(tokens.get(at));
            if (taken.contains(alley)) {
                return 2;
            }
            if (n == 6) {
                return 3;
            }
            taken.add(alley);
            at++;
        }
        at++;
        streets++;
        return 0;
    }
}
