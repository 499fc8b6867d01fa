import java.io.File;
import java.io.IOException;
import java.lang.reflect.Method;
import java.lang.reflect.Modifier;
import java.nio.charset.StandardCharsets;
import java.nio.file.Files;
import java.nio.file.Path;
import java.util.ArrayList;
import java.util.Comparator;
import java.util.List;
import java.util.Set;
import java.util.TreeSet;
import java.util.regex.Matcher;
import java.util.regex.Pattern;
import java.util.stream.Stream;

/** README.md is there, its examples answer as it says, and what it says of running the tests is what .ci/run does. */
public final class ReadmeTest {
    private static final Pattern CALL = Pattern.compile("x\\.(\\w+)\\((.*?)\\);\\s*// (.*)");
    private static final String GOOD = "System.out.println(\"ran \" + NAME + \" \" + OneWays.NONE);";
    private static final String BAD = GOOD + " System.exit(1);";
    private static final String BROKEN = "this is no Java";

    private static Path root = Path.of(".");

    public static void main(String[] args) throws Exception {
        root = Path.of(args.length > 0 ? args[0] : ".");
        due("README.md is there", Files.isRegularFile(root.resolve("README.md")));
        if (Files.isRegularFile(root.resolve("README.md"))) {
            String page = Files.readString(root.resolve("README.md"));
            examples(page);
            allCalls(page);
            allTests(page);
            command(page);
            runs();
        }
        TestKit.finish();
    }

    private static void due(String what, boolean good) {
        TestKit.due(what, good ? 1 : 0, 1);
    }

    // ---- how to use the class

    /** Each call in a block of code answers the number that its comment begins with. */
    private static void examples(String page) throws ReflectiveOperationException {
        OneWays x = new OneWays();
        int answered = 0;
        Matcher blocks = Pattern.compile("(?s)```java\n(.*?)```").matcher(page);
        while (blocks.find()) {
            for (String line : blocks.group(1).split("\n")) {
                if (line.equals("OneWays x = new OneWays();")) {
                    x = new OneWays();
                } else {
                    example(x, line);
                    answered++;
                }
            }
        }
        due("README.md has examples", answered >= 20);
    }

    private static void example(OneWays x, String line) throws ReflectiveOperationException {
        Matcher call = CALL.matcher(line);
        due("a call with its answer: " + line, call.matches());
        if (!call.matches()) {
            return;
        }
        List<Object> values = new ArrayList<>();
        Method method = methodOf(call.group(1));
        String[] numbers = call.group(2).isEmpty() ? new String[0] : call.group(2).split(", ");
        due(line + " has as many arguments as the face says", numbers.length == method.getParameterCount());
        for (int i = 0; i < numbers.length; i++) {
            long value = Long.decode(numbers[i]);
            values.add(method.getParameterTypes()[i] == long.class ? (Object) value : (Object) (int) value);
        }
        int before = x.count(5);
        int got = (int) method.invoke(x, values.toArray());
        if (call.group(1).equals("feed")) {
            TestKit.due(line, got, before + 20);
            TestKit.dueText(line, "\"" + fed(values) + "\"", call.group(3));
        } else {
            Matcher number = Pattern.compile("(-?\\d+)\\b.*").matcher(call.group(3));
            due("a number first: " + line, number.matches());
            TestKit.due(line, got, number.matches() ? Integer.parseInt(number.group(1)) : ~got);
        }
    }

    private static Method methodOf(String name) throws NoSuchMethodException {
        for (Method m : OneWays.class.getDeclaredMethods()) {
            if (Modifier.isPublic(m.getModifiers()) && m.getName().equals(name)) {
                return m;
            }
        }
        throw new NoSuchMethodException(name);
    }

    private static String fed(List<Object> values) {
        StringBuilder text = new StringBuilder();
        for (Object value : values) {
            for (int shift = 24; shift >= 0; shift -= 8) {
                text.append((char) ((int) value >> shift & 255));
            }
        }
        return text.toString();
    }

    private static void allCalls(String page) {
        for (Method m : OneWays.class.getDeclaredMethods()) {
            if (Modifier.isPublic(m.getModifiers())) {
                due("README.md names " + m.getName(), page.contains("`" + m.getName() + "`"));
            }
        }
    }

    // ---- how to run the tests

    /** The tests that README.md names are those that there are. */
    private static void allTests(String page) throws IOException {
        Set<String> named = new TreeSet<>();
        Matcher rows = Pattern.compile("(?m)^\\| `(\\w+Test)` \\|").matcher(page);
        while (rows.find()) {
            named.add(rows.group(1));
        }
        Set<String> there = new TreeSet<>();
        try (Stream<Path> files = Files.list(root.resolve("src/test/java"))) {
            files.map(file -> file.getFileName().toString()).filter(name -> name.endsWith("Test.java"))
                    .forEach(name -> there.add(name.substring(0, name.length() - ".java".length())));
        }
        TestKit.dueText("the tests that README.md names", named.toString(), there.toString());
    }

    private static void command(String page) throws IOException {
        due("README.md says to run .ci/run", page.contains("\n    .ci/run\n"));
        due(".ci/run may be executed", Files.isExecutable(root.resolve(".ci/run")));
        String script = Files.readString(root.resolve(".ci/run"));
        due("a shell script", script.startsWith("#!/bin/sh\n"));
        for (String other : "mvn gradle ant junit jar python python3 perl node curl wget git apt apt-get".split(" ")) {
            due(".ci/run needs no " + other, !Pattern.compile("(?<![\\w./-])" + other + "(?![\\w-])").matcher(script).find());
        }
    }

    /** .ci/run in small trees of their own, each with something that README.md says makes it fail, or nothing. */
    private static void runs() throws IOException, InterruptedException {
        Ran ran = run(new String[] {"OneTest", GOOD, "OtherTest", GOOD, "Helper", BAD}, new String[] {"Runs", GOOD, "MoreRuns", GOOD});
        due("all good: exit code 0, not " + ran.code + "\n" + ran.text, ran.code == 0);
        for (String name : new String[] {"OneTest", "OtherTest", "Runs", "MoreRuns"}) {
            due(name + " is run", ran.text.contains("ran " + name + " -1\n"));
        }
        due("what is no test is not run", !ran.text.contains("ran Helper"));
        due("none is named", !ran.text.contains("FAILED"));

        ran = run(new String[] {"BadTest", BAD, "OtherTest", GOOD}, new String[] {"Runs", GOOD});
        fails("a test of the project", ran, "FAILED: BadTest\n", "ran OtherTest -1\n", "ran Runs -1\n");
        ran = run(new String[] {"OneTest", GOOD}, new String[] {"BadRuns", BAD, "Runs", GOOD});
        fails("a shared test", ran, "FAILED: BadRuns\n", "ran OneTest -1\n", "ran Runs -1\n");
        ran = run(new String[] {"OneTest", BROKEN}, new String[] {"Runs", GOOD});
        fails("a test that can't be compiled", ran);
        ran = run(new String[] {"OneTest", GOOD}, new String[] {"BadRuns", BROKEN, "Runs", GOOD});
        fails("a shared test that can't be compiled", ran, "ran OneTest -1\n", "ran Runs -1\n");
        ran = run(new String[] {"OneTest", GOOD}, new String[0]);
        fails("no shared test", ran);
    }

    private static void fails(String what, Ran ran, String... told) {
        due(what + ": not exit code 0\n" + ran.text, ran.code != 0);
        due(what + ": it does not say that all passed", !ran.text.contains("all tests passed"));
        for (String part : told) {
            due(what + ": it tells " + part, ran.text.contains(part));
        }
    }

    private record Ran(int code, String text) {
    }

    private static Ran run(String[] own, String[] shared) throws IOException, InterruptedException {
        Path place = Files.createTempDirectory("readme");
        try {
            Path main = place.resolve("main");
            write(main.resolve("src/main/java/OneWays.java"), "public final class OneWays { public static final int NONE = -1; }");
            writeTests(main.resolve("src/test/java"), own);
            writeTests(place.resolve("shared/tests"), shared);
            Path script = main.resolve(".ci/run");
            write(script, Files.readString(root.resolve(".ci/run")));
            File told = place.resolve("told").toFile();
            Process process = new ProcessBuilder("sh", script.toString()).redirectErrorStream(true).redirectOutput(told).start();
            int code = process.waitFor();
            return new Ran(code, Files.readString(told.toPath()));
        } finally {
            remove(place);
        }
    }

    private static void writeTests(Path into, String[] namesAndCodes) throws IOException {
        Files.createDirectories(into);
        for (int i = 0; i < namesAndCodes.length; i += 2) {
            String name = namesAndCodes[i];
            write(into.resolve(name + ".java"), "public final class " + name + " { private static final String NAME = \"" + name
                    + "\"; public static void main(String[] args) { " + namesAndCodes[i + 1] + " } }");
        }
    }

    private static void write(Path file, String text) throws IOException {
        Files.createDirectories(file.getParent());
        Files.write(file, text.getBytes(StandardCharsets.ISO_8859_1));
    }

    private static void remove(Path place) throws IOException {
        List<Path> files = new ArrayList<>();
        try (Stream<Path> all = Files.walk(place)) {
            all.sorted(Comparator.reverseOrder()).forEach(files::add);
        }
        for (Path file : files) {
            Files.delete(file);
        }
    }
}
