import java.io.IOException;
import java.lang.reflect.InvocationTargetException;
import java.lang.reflect.Method;
import java.lang.reflect.Modifier;
import java.net.URL;
import java.net.URLClassLoader;
import java.nio.file.Files;
import java.nio.file.Path;
import java.util.ArrayList;
import java.util.LinkedHashMap;
import java.util.List;
import java.util.Map;
import java.util.regex.Matcher;
import java.util.regex.Pattern;
import java.util.stream.Stream;

/**
 * README.md: the calls of its examples are made, as the Java that stands there, and each answer that it tells is compared
 * with the one that the class gives.
 */
public final class ReadmeTest {
    private static final String ANSWER = "(-?\\d+|true|false|\"[^\"]*\"|throws \\w+Exception)(: .+)?";
    private static final Pattern TOLD = Pattern.compile("(\\s*)(int (\\w+) = )?(house\\.(\\w+)\\(.*\\));\\s+// " + ANSWER);

    /** What each part of the README must show. */
    private static final Map<String, List<String>> DUE = new LinkedHashMap<>();

    static {
        DUE.put("The form", List.of("page", "question", "is", "jump", "dropJump", "whole", "lost", "path", "reached", "rows"));
        DUE.put("People", List.of("invite", "call", "answer", "go", "back", "send", "seen", "record", "quota", "remind"));
        DUE.put("Tables", List.of("rim", "weigh", "weight", "cell", "least", "outside", "apart", "cube"));
        DUE.put("Lines", List.of("line", "spoiled", "count", "isSound"));
    }

    /** One call of an example whose answer was another one than the told one. */
    private static final List<String> WRONG = new ArrayList<>();
    private static int compared;

    public static void main(String[] args) throws Exception {
        noticed();
        String readme = Files.readString(Path.of(System.getProperty("askhouse.readme", "README.md")));
        Map<String, List<String>> parts = partsOf(readme);
        Check.same("the parts with examples", new ArrayList<>(parts.keySet()), new ArrayList<>(DUE.keySet()));
        for (Map.Entry<String, List<String>> part : parts.entrySet()) {
            shows(part.getKey(), String.join("\n", part.getValue()));
        }
        play(parts);
        Check.same("answers that are not as README.md tells them", String.join("\n", WRONG), "");
        Check.same("many answers are told", compared > 100, true);
        namesEachCall(readme);
        howToRun(readme);
        Check.end("ReadmeTest");
    }

    // ---- called by the examples

    /** Public, as the examples are loaded apart from the tests. */
    public static void told(String line, Object got, String due) {
        compared++;
        String shown = got instanceof String ? "\"" + got + "\"" : String.valueOf(got);
        if (!shown.equals(due)) {
            WRONG.add(line + " <- answered " + shown);
        }
    }

    // ---- the test of this test

    /** Wrongly told answers are seen: a number, a text, an exception that there is not, one of another name, one not told. */
    private static void noticed() throws Exception {
        String readme = String.join("\n", "### One", "```java", "Askhouse house = new Askhouse();",
            "int page = house.page();  // 1", "house.line(0);  // \"page -1 0\"", "house.line(1);  // \"groups 1\": told rightly",
            "house.isSound();  // false", "house.line(1);  // \"groups\": but one is there", "house.knock();  // throws IllegalStateException",
            "house.line(9);  // throws IllegalStateException", "house.line(9);  // throws IndexOutOfBoundsException",
            "house.line(2);  // \"\"", "```",
            "house.knock();  // 77, but that is no example");
        play(partsOf(readme));
        List<String> due = List.of("int page = house.page();  // 1 <- answered 0", "house.isSound();  // false <- answered true",
            "house.line(1);  // \"groups\": but one is there <- answered \"groups 1\"",
            "house.knock();  // throws IllegalStateException <- answered 1",
            "house.line(9);  // throws IllegalStateException <- answered throws IndexOutOfBoundsException",
            "the examples end with java.lang.IndexOutOfBoundsException: no such line");
        Check.same("wrong answers are noticed", WRONG, due);
        Check.same("all were compared", compared, 8);
        WRONG.clear();
        compared = 0;
    }

    // ---- what stands in it

    /** The lines of the examples, by the heading under which they stand. */
    private static Map<String, List<String>> partsOf(String readme) {
        Map<String, List<String>> parts = new LinkedHashMap<>();
        String heading = "";
        boolean isExample = false;
        for (String line : readme.split("\n")) {
            if (line.startsWith("```")) {
                isExample = line.equals("```java");
            } else if (isExample) {
                parts.computeIfAbsent(heading, key -> new ArrayList<>()).add(line);
            } else if (line.startsWith("#")) {
                heading = line.replaceAll("^#+ ", "");
            }
        }
        return parts;
    }

    /** Each comment tells an answer, and the calls that the part is about are among those whose answer is told. */
    private static void shows(String part, String lines) {
        List<String> calls = new ArrayList<>();
        for (String line : lines.split("\n")) {
            Matcher matcher = TOLD.matcher(line);
            boolean isTold = matcher.matches();
            Check.same("an answer is told as one: " + line, isTold, line.contains("//"));
            if (isTold) {
                calls.add(matcher.group(5));
            }
        }
        for (String call : DUE.getOrDefault(part, List.of())) {
            Check.same(part + " shows " + call, calls.contains(call), true);
        }
    }

    private static void namesEachCall(String readme) {
        for (Method method : Askhouse.class.getDeclaredMethods()) {
            if (Modifier.isPublic(method.getModifiers())) {
                Check.same("names " + method.getName(), readme.contains("`" + method.getName() + "`"), true);
            }
        }
    }

    private static void howToRun(String readme) {
        Check.same("how to run all tests", readme.contains("\n    .ci/run\n"), true);
        Check.same("how to run one", readme.contains("\n    java -cp /tmp/askhouse TablesTest\n"), true);
    }

    // ---- its calls

    /** Makes the calls of all examples, each part by itself. */
    private static void play(Map<String, List<String>> parts) throws Exception {
        StringBuilder source = new StringBuilder("public final class ReadmeExamples {\n");
        StringBuilder calls = new StringBuilder();
        int number = 0;
        for (List<String> lines : parts.values()) {
            calls.append("part").append(number).append("();\n");
            source.append("static void part").append(number).append("() {\n");
            for (String line : lines) {
                source.append(compared(line)).append('\n');
            }
            source.append("}\n");
            number++;
        }
        source.append("public static void all() {\n").append(calls).append("}\n}\n");
        Path build = Files.createTempDirectory("askhouse-readme");
        try {
            compileAndCall(build, source.toString());
        } finally {
            remove(build);
        }
    }

    /** A line of an example, with the answer compared if it tells one. */
    private static String compared(String line) {
        Matcher matcher = TOLD.matcher(line);
        if (!matcher.matches()) {
            return line;
        }
        String answer = matcher.group(6);
        String head = "ReadmeTest.told(" + quoted(line.trim()) + ", ";
        if (answer.startsWith("throws ")) {
            String told = head + "new StringBuilder(\"throws \").append(e.getClass().getSimpleName()), ";
            return "try { " + head + matcher.group(4) + ", " + quoted(answer) + "); } catch (RuntimeException e) { "
                + told + quoted(answer) + "); }";
        }
        if (matcher.group(3) != null) {
            return "int " + matcher.group(3) + " = " + matcher.group(4) + ";\n" + head + matcher.group(3) + ", "
                + quoted(answer) + ");";
        }
        return head + matcher.group(4) + ", " + quoted(answer) + ");";
    }

    private static String quoted(String text) {
        return "\"" + text.replace("\\", "\\\\").replace("\"", "\\\"") + "\"";
    }

    private static void compileAndCall(Path build, String source) throws Exception {
        Path file = build.resolve("ReadmeExamples.java");
        Files.writeString(file, source);
        // The same javac as that of .ci/run; the java that runs this may come without a compiler.
        String classes = System.getProperty("java.class.path");
        int result = new ProcessBuilder("javac", "-nowarn", "-cp", classes, "-d", build.toString(), file.toString())
            .inheritIO().start().waitFor();
        Check.same("the examples are Java", result, 0);
        if (result != 0) {
            return;
        }
        try (URLClassLoader loader = new URLClassLoader(new URL[] {build.toUri().toURL()}, ReadmeTest.class.getClassLoader())) {
            loader.loadClass("ReadmeExamples").getMethod("all").invoke(null);
        } catch (InvocationTargetException e) {
            WRONG.add("the examples end with " + e.getCause());
        }
    }

    private static void remove(Path directory) throws IOException {
        try (Stream<Path> files = Files.list(directory)) {
            for (Path file : files.toList()) {
                Files.delete(file);
            }
        }
        Files.delete(directory);
    }
}
