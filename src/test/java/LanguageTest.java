import java.lang.reflect.Constructor;
import java.lang.reflect.Field;
import java.lang.reflect.Method;
import java.lang.reflect.Modifier;
import java.nio.file.Files;
import java.nio.file.Path;
import java.util.Arrays;
import java.util.List;
import java.util.TreeSet;
import java.util.regex.Matcher;
import java.util.regex.Pattern;
import java.util.stream.Collectors;

/** The rules of LANGUAGE.md that can be seen in the source or in the class: a landing outside them is sent back. */
final class LanguageTest {
    private static final Check CHECK = new Check("LanguageTest");
    private static final String FACE = "feed/5 end/1 river/0 rule/0 yard/3 tip/2 err/3 build/3 pull/1 spring/3 miss/1 "
        + "ahead/4 zigzag/3 whatever/6 straight/3 spite/4 mend/1 ruin/3 erred/5 seed/1 tried/6 leap/1 count/1 image/1 back/1";

    public static void main(String[] args) throws Exception {
        face();
        faceOfDocument(Files.readString(Path.of("../shared/DOC.md")));
        names();
        source(Files.readString(Path.of("src/main/java/HalfBridge.java")));
        CHECK.close();
    }

    private static void face() {
        TreeSet<String> shown = new TreeSet<>();
        for (Method m : HalfBridge.class.getDeclaredMethods()) {
            boolean isPublic = Modifier.isPublic(m.getModifiers());
            CHECK.is(m.getName() + " is public or private", isPublic || Modifier.isPrivate(m.getModifiers()), true);
            if (isPublic) {
                shown.add(m.getName() + "/" + m.getParameterCount());
                boolean isBoolean = List.of("build", "pull", "ruin").contains(m.getName());
                CHECK.is("what " + m.getName() + " answers", m.getReturnType() == (isBoolean ? boolean.class : int.class), true);
                CHECK.is(m.getName() + " is no static method", Modifier.isStatic(m.getModifiers()), false);
            }
        }
        CHECK.is("the face is " + shown, shown.equals(new TreeSet<>(Arrays.asList(FACE.split(" ")))), true);
        for (Field f : HalfBridge.class.getDeclaredFields()) {
            CHECK.is("field " + f.getName(), Modifier.isPrivate(f.getModifiers()) || f.getName().equals("NONE"), true);
        }
        Constructor<?>[] made = HalfBridge.class.getDeclaredConstructors();
        CHECK.is("constructors", made.length, 1);
        CHECK.is("the constructor is public", Modifier.isPublic(made[0].getModifiers()), true);
        CHECK.is("the class is final", Modifier.isFinal(HalfBridge.class.getModifiers()), true);
        CHECK.is("classes", HalfBridge.class.getDeclaredClasses().length + 1 <= 12, true);
    }

    /** Word for word, so that a face which the document changes is seen here. */
    private static void faceOfDocument(String document) {
        TreeSet<String> promised = new TreeSet<>();
        Matcher m = Pattern.compile("(?m)^    public (static final )?(.*);$").matcher(document);
        while (m.find()) {
            promised.add((m.group(1) == null ? "" : m.group(1)) + m.group(2).replaceAll("int \\w+(?=[,)])", "int"));
        }
        TreeSet<String> shown = new TreeSet<>();
        for (Method method : HalfBridge.class.getMethods()) {
            if (method.getDeclaringClass() == HalfBridge.class) {
                shown.add(method.getReturnType() + " " + method.getName() + types(method.getParameterTypes()));
            }
        }
        for (Constructor<?> c : HalfBridge.class.getConstructors()) {
            shown.add(c.getName() + types(c.getParameterTypes()));
        }
        for (Field f : HalfBridge.class.getFields()) {
            shown.add("static final " + f.getType() + " " + f.getName() + " = " + HalfBridge.NONE);
        }
        CHECK.same("the document's face", String.join("\n", shown), String.join("\n", promised));
    }

    private static String types(Class<?>[] types) {
        return Arrays.stream(types).map(Class::getName).collect(Collectors.joining(", ", "(", ")"));
    }

    private static void names() {
        for (Class<?> c : HalfBridge.class.getDeclaredClasses()) {
            CHECK.is(c + " is static", Modifier.isStatic(c.getModifiers()), true);
            int fields = 0;
            for (Field f : c.getDeclaredFields()) {
                boolean isStatic = Modifier.isStatic(f.getModifiers());
                CHECK.is(f + " is no changing static", !isStatic || Modifier.isFinal(f.getModifiers()), true);
                fields += isStatic ? 0 : 1;
            }
            CHECK.is("fields of " + c, fields <= 20, true);
            for (Method m : c.getDeclaredMethods()) {
                CHECK.is(m + " has a name of its own", FACE.contains(m.getName() + "/"), false);
            }
        }
    }

    private static void source(String text) {
        String bare = text.replaceAll("(?s)/\\*.*?\\*/", " ").replaceAll("//[^\n]*", " ").replaceAll("\"[^\"]*\"", "\"\"");
        for (String word : new String[] {"throw", "throws", "try", "catch", "synchronized", "assert", "static {", "->", "::",
            "record ", "Object", "System.out", "Exact", "hashCode", "toString", "import java.io", "double", "float"}) {
            CHECK.is("no '" + word + "'", Pattern.compile("(?<![A-Za-z])" + Pattern.quote(word) + "(?![A-Za-z])")
                    .matcher(bare).find(), false);
        }
        Matcher imports = Pattern.compile("import ([^;]*);").matcher(bare);
        while (imports.find()) {
            CHECK.is("import " + imports.group(1), imports.group(1).equals("java.util.Arrays"), true);
        }
        Matcher calls = Pattern.compile("\\b(Arrays|System|Math|Integer|Long)\\.(\\w+)").matcher(bare);
        List<String> known = List.of("copyOf", "fill", "arraycopy", "max", "min", "abs", "floorMod");
        while (calls.find()) {
            CHECK.is(calls.group(), known.contains(calls.group(2)), true);
        }
        CHECK.is("signs are 1 to 127", text.chars().allMatch(c -> c > 0 && c < 128), true);
        methods(text);
    }

    private static void methods(String text) {
        String[] lines = text.split("\n");
        Pattern head = Pattern.compile("^( {4}| {8})[A-Za-z][A-Za-z\\[\\] ]* (\\w+)\\(([^)]*)\\) \\{$");
        int found = 0;
        for (int i = 0; i < lines.length; i++) {
            Matcher m = head.matcher(lines[i]);
            if (!m.find() || m.group(2).equals("if")) {
                continue;
            }
            found++;
            int j = i;
            while (!lines[j].equals(m.group(1) + "}")) {
                j++;
            }
            CHECK.is(m.group(2) + " is short", j - i + 1 <= 60, true);
            CHECK.is(m.group(2) + " takes few", m.group(3).split(",").length <= 7, true);
        }
        CHECK.is("methods found", found > 80, true);
    }
}
