import java.io.IOException;
import java.lang.reflect.Constructor;
import java.lang.reflect.Field;
import java.lang.reflect.Method;
import java.lang.reflect.Modifier;
import java.nio.file.Files;
import java.nio.file.Path;
import java.util.Set;
import java.util.TreeSet;
import java.util.regex.Matcher;
import java.util.regex.Pattern;

/** The rules of LANGUAGE.md that can be seen from the class and its source. */
public final class LanguageTest {
    private static final String FACE = "afternoon alike alley arrive back bar best better busiest can change clear coin count cut end"
            + " ended fault feed fire forced forcedWay give gives gone journey judge keep known lastFire load minutes next paid pair"
            + " paired paste reach ring round row show signs spare spared street sum sumBack text total walk way whole worst write";
    private static final String[] BARRED = {"throw", "throws", "try", "catch", "finally", "synchronized", "assert", "while (true)",
            "for (;;)", "->", "::", "Object", "System.out", "nanoTime", "currentTimeMillis", "Random", "Thread", "Exact(", "@",
            "double", "float", "protected"};
    /** Rule 4, as far as the class could need it; Math, Integer and Long but for what ends in Exact (above). */
    private static final Pattern LIBRARY = Pattern.compile("java\\.lang\\.Object\\.<init>\\(\\)V"
            + "|java\\.lang\\.String\\.(length|charAt|isEmpty|equals|substring|toCharArray)\\(.*"
            + "|java\\.lang\\.(Math|Integer|Long)\\.\\w+\\(.*|java\\.lang\\.System\\.arraycopy\\(.*"
            + "|java\\.util\\.Arrays\\.(copyOf|copyOfRange|fill)\\(.*");
    private static final int MOST_DEEP = 8;
    private static final int MOST_LINES = 60;
    private static final int MOST_FIELDS = 20;
    private static final int MOST_CLASSES = 12;

    public static void main(String[] args) throws IOException {
        face();
        nested();
        calls(ClassCalls.of(OneWays.class));
        Path root = Path.of(args.length > 0 ? args[0] : ".");
        source(Files.readString(root.resolve("src/main/java/OneWays.java")));
        TestKit.finish();
    }

    private static void due(String what, boolean good) {
        TestKit.due(what, good ? 1 : 0, 1);
    }

    private static void face() {
        due("public and final", (OneWays.class.getModifiers() & (Modifier.PUBLIC | Modifier.FINAL)) == (Modifier.PUBLIC | Modifier.FINAL));
        Set<String> names = new TreeSet<>();
        for (Method m : OneWays.class.getDeclaredMethods()) {
            boolean isPublic = Modifier.isPublic(m.getModifiers());
            due(m.getName() + " is public or private", isPublic || Modifier.isPrivate(m.getModifiers()));
            if (isPublic) {
                names.add(m.getName());
            }
        }
        TestKit.dueText("the face", String.join(" ", names), String.join(" ", new TreeSet<>(Set.of(FACE.split(" ")))));
        for (Field f : OneWays.class.getDeclaredFields()) {
            due(f.getName() + " is private", Modifier.isPrivate(f.getModifiers()) || f.getName().equals("NONE"));
        }
        for (Constructor<?> c : OneWays.class.getDeclaredConstructors()) {
            due("one public constructor", Modifier.isPublic(c.getModifiers()) && c.getParameterCount() == 0);
        }
    }

    private static void nested() {
        Set<String> names = Set.of(FACE.split(" "));
        Class<?>[] inside = OneWays.class.getDeclaredClasses();
        due("few classes", inside.length + 1 <= MOST_CLASSES);
        for (Class<?> c : inside) {
            due(c.getName() + " is static", Modifier.isStatic(c.getModifiers()));
            for (Method m : c.getDeclaredMethods()) {
                due(m.getName() + " has a name of its own", !names.contains(m.getName()));
                due(m.getName() + " takes at most seven", m.getParameterCount() <= 7);
            }
            fields(c);
        }
        for (Method m : OneWays.class.getDeclaredMethods()) {
            due(m.getName() + " has a name of its own", Modifier.isPublic(m.getModifiers()) || !names.contains(m.getName()));
        }
        fields(OneWays.class);
    }

    private static void fields(Class<?> c) {
        int own = 0;
        for (Field f : c.getDeclaredFields()) {
            boolean isStatic = Modifier.isStatic(f.getModifiers());
            own += isStatic ? 0 : 1;
            due(f.getName() + " is final if static", !isStatic || Modifier.isFinal(f.getModifiers()));
        }
        due(c.getName() + " has few fields", own <= MOST_FIELDS);
    }

    /** "calls that are no recursion go at most eight deep"; and "The library: only what stands here." */
    private static void calls(ClassCalls all) {
        due("all methods of the face are seen", all.calls.size() > FACE.split(" ").length);
        for (String method : all.calls.keySet()) {
            int depth = all.depth(method);
            due(method + " goes " + depth + " deep", depth >= 1 && depth <= MOST_DEEP);
            for (String called : all.calls.get(method)) {
                due(method + " calls " + called, all.calls.containsKey(called) || LIBRARY.matcher(called).matches());
            }
        }
    }

    private static void source(String text) {
        String code = text.replaceAll("(?s)/\\*.*?\\*/", "").replaceAll("//[^\n]*", "").replaceAll("\"[^\"\n]*\"", "\"\"");
        for (String word : BARRED) {
            boolean isWord = Character.isLetter(word.charAt(0)) && Character.isLetter(word.charAt(word.length() - 1));
            Pattern p = Pattern.compile(isWord ? "\\b" + Pattern.quote(word) + "\\b" : Pattern.quote(word));
            due("no " + word, !p.matcher(code).find());
        }
        Matcher imports = Pattern.compile("import ([^;]+);").matcher(code);
        while (imports.find()) {
            due("import " + imports.group(1), imports.group(1).equals("java.util.Arrays"));
        }
        for (int i = 0; i < text.length(); i++) {
            if (text.charAt(i) > 126) {
                due("plain signs at " + i, false);
            }
        }
        int begin = 0;
        String[] lines = text.split("\n");
        for (int n = 0; n < lines.length; n++) {
            if (lines[n].matches("\\s+(public|private|static|final|int|long|boolean|void|[A-Z]\\w*)\\b.*\\(.*\\) \\{")) {
                begin = n;
            }
            if (lines[n].matches("(    |        )\\}")) {
                due("the method at line " + (begin + 1) + " is short", n - begin < MOST_LINES || lines[n].startsWith("    }"));
            }
        }
    }
}
