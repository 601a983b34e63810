import java.io.ByteArrayOutputStream;
import java.io.File;
import java.io.IOException;
import java.lang.reflect.Method;
import java.lang.reflect.Modifier;
import java.net.URL;
import java.net.URLClassLoader;
import java.nio.file.Files;
import java.nio.file.Path;
import java.util.ArrayList;
import java.util.List;
import java.util.Map;
import java.util.TreeMap;
import java.util.TreeSet;
import java.util.regex.Matcher;
import java.util.regex.Pattern;
import java.util.stream.Stream;
import javax.tools.JavaCompiler;
import javax.tools.ToolProvider;

/** The examples of README.md are compiled as one program and run: each must answer what stands behind it. */
final class ReadmeTest {
    private static final Check CHECK = new Check("ReadmeTest");
    private static final Pattern BLOCK = Pattern.compile("(?ms)^```java\n(.*?)^```$");
    private static final Pattern EXAMPLE = Pattern.compile("(.*\\S); // (-?\\d+|true|false)(?:: .*)?");
    private static final Pattern UNASKED = Pattern.compile("HalfBridge \\w = new HalfBridge\\(\\);|for \\(.*|");
    private static final Pattern CALL = Pattern.compile("(?:\\w\\.)?(\\w+)\\(.*");

    private final StringBuilder helpers = new StringBuilder();
    private final StringBuilder program = new StringBuilder();
    private final List<String> examples = new ArrayList<>();
    /** Of each call all answers that the page shows. */
    private final Map<String, TreeSet<String>> shown = new TreeMap<>();

    public static void main(String[] args) throws Exception {
        String page = Files.readString(Path.of("README.md"));
        ReadmeTest test = new ReadmeTest();
        test.read(page);
        test.run();
        test.everyCallIsShown();
        test.wrongCalls(page);
        tests(page);
        commands(page);
        CHECK.close();
    }

    private void read(String page) {
        Matcher m = BLOCK.matcher(page);
        while (m.find()) {
            boolean isHelper = m.group(1).contains("static ");
            for (String line : m.group(1).split("\n")) {
                if (isHelper) {
                    helpers.append(line).append('\n');
                } else {
                    example(line);
                }
            }
        }
        CHECK.is("examples are found", examples.size() > 80, true);
    }

    private void example(String line) {
        Matcher m = EXAMPLE.matcher(line);
        if (!m.matches()) {
            CHECK.is("says what it answers: " + line, UNASKED.matcher(line).matches(), true);
            program.append(line).append('\n');
            return;
        }
        program.append("due(").append(examples.size()).append(", ").append(m.group(1)).append(", ").append(m.group(2))
                .append(");\n");
        examples.add(line);
        Matcher call = CALL.matcher(m.group(1));
        CHECK.is("is a call: " + line, call.matches(), true);
        shown.computeIfAbsent(call.group(1), k -> new TreeSet<>()).add(m.group(2));
    }

    private void run() throws Exception {
        Path room = Files.createTempDirectory("readme");
        Path source = room.resolve("Examples.java");
        try {
            Files.writeString(source, "public final class Examples {\n"
                    + "private static final java.util.Map<Integer, String> WRONG = new java.util.TreeMap<>();\n"
                    + "private static void due(int at, int got, int due) { if (got != due) WRONG.put(at, \"\" + got); }\n"
                    + "private static void due(int at, boolean got, boolean due) { if (got != due) WRONG.put(at, \"\" + got); }\n"
                    + helpers + "public static java.util.Map<Integer, String> run() {\n" + program + "return WRONG;\n}\n}\n");
            judge(compiled(room, source));
        } finally {
            try (Stream<Path> files = Files.list(room)) {
                files.map(Path::toFile).forEach(File::delete);
            }
            Files.delete(room);
        }
    }

    private static Map<?, ?> compiled(Path room, Path source) throws Exception {
        JavaCompiler compiler = ToolProvider.getSystemJavaCompiler();
        ByteArrayOutputStream said = new ByteArrayOutputStream();
        String known = System.getProperty("java.class.path");
        int code = compiler.run(null, said, said, "-cp", known, "-d", room.toString(), source.toString());
        CHECK.is("the examples compile: " + said, code, 0);
        if (code != 0) {
            return Map.of();
        }
        try (URLClassLoader loader = new URLClassLoader(new URL[] {room.toUri().toURL()})) {
            return (Map<?, ?>) loader.loadClass("Examples").getMethod("run").invoke(null);
        }
    }

    private void judge(Map<?, ?> wrong) {
        for (int i = 0; i < examples.size(); i++) {
            Object got = wrong.get(i);
            CHECK.is(examples.get(i) + " (it answered " + got + ")", got == null, true);
        }
    }

    private void everyCallIsShown() {
        for (Method m : HalfBridge.class.getDeclaredMethods()) {
            if (Modifier.isPublic(m.getModifiers())) {
                CHECK.is("shown: " + m.getName(), shown.containsKey(m.getName()), true);
            }
        }
    }

    /** Each call of the table of wrong calls has an example with the table's answer. */
    private void wrongCalls(String page) {
        Matcher m = Pattern.compile("(?m)^\\| (-1|-100000|false) \\| (.*) \\|$").matcher(page);
        int named = 0;
        while (m.find()) {
            for (String call : m.group(2).split(", ")) {
                CHECK.is("a wrong " + call + " is shown", shown.getOrDefault(call, new TreeSet<>()).contains(m.group(1)), true);
                named++;
            }
        }
        CHECK.is("calls in the table, all but river", named, 24);
    }

    /** The page's last table has every test there is, and no other. */
    private static void tests(String page) throws IOException {
        TreeSet<String> named = new TreeSet<>();
        Matcher m = Pattern.compile("(?m)^\\| (\\w+Test(?:, \\w+Test)*) \\|").matcher(page);
        while (m.find()) {
            named.addAll(List.of(m.group(1).split(", ")));
        }
        TreeSet<String> found = new TreeSet<>();
        try (Stream<Path> files = Files.list(Path.of("src/test/java"))) {
            files.map(f -> f.getFileName().toString()).filter(f -> f.endsWith("Test.java"))
                    .forEach(f -> found.add(f.substring(0, f.length() - 5)));
        }
        CHECK.same("tests that the page names", String.join("\n", named), String.join("\n", found));
    }

    /** The commands themselves would run this test again; what they name must be there. */
    private static void commands(String page) {
        CHECK.is(".ci/run can be run", Files.isExecutable(Path.of(".ci/run")), true);
        Matcher m = Pattern.compile("(?m)^java -cp (\\S+) (\\w+)").matcher(page);
        int found = 0;
        while (m.find()) {
            CHECK.is(m.group(2) + " is there", Files.exists(Path.of("src/test/java/" + m.group(2) + ".java")), true);
            CHECK.is(m.group(1) + " is compiled to", page.contains("\njavac -d " + m.group(1) + " src/main"), true);
            found++;
        }
        CHECK.is("commands are found", found, 2);
    }
}
