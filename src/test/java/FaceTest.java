import java.io.IOException;
import java.lang.reflect.Constructor;
import java.lang.reflect.Field;
import java.lang.reflect.Method;
import java.lang.reflect.Modifier;
import java.nio.file.Files;
import java.nio.file.Path;
import java.util.ArrayList;
import java.util.Collections;
import java.util.List;
import java.util.Set;
import java.util.TreeSet;

/** The public face is the document's, and the source keeps to those rules of LANGUAGE.md that can be looked up in it. */
public final class FaceTest {
    private static final String[] METHODS = {
        "int page()", "int question(int,int,int,int)", "int is(int,int,int)", "int inGroup(int)", "int join(int,int,boolean)",
        "int not(int)", "int show(int,int)", "int jump(int,int,int)", "int dropJump(int,int)", "int check(int,int)",
        "int quota(int,int)", "int place(int,int)", "boolean turn(int,boolean)", "int loop(int,int,int)", "int groups(int)",
        "int invite(int,int,int)", "int call()", "int answer(int,int,int,int)", "int type(int,int,int,int)",
        "int wipe(int,int,int)", "int go(int)", "int back(int)", "int send(int)", "int pass(int)", "int remind(int)",
        "int knock()", "int ofPerson(int,int)", "int stands(int,int,int)", "String seen(int)", "String choices(int,int)",
        "String record(int)", "int whole()", "String lost(int)", "String reached(int)", "int rows(int)", "String path(int)",
        "String cell(int,int,int,int,boolean)", "int cube(int,int,int,int,int,int)", "int rim(int,int,int)", "int weigh(int)",
        "String weight(int)", "String apart(int,int)", "int least(int)", "String outside(int,int)", "String line(int)",
        "int spoiled(int,int,int)", "int count(int)", "boolean isSound()", "long digest()"};

    public static void main(String[] args) throws IOException {
        face();
        classesInside();
        source();
        Check.end("FaceTest");
    }

    private static String told(Method method) {
        List<String> types = new ArrayList<>();
        for (Class<?> type : method.getParameterTypes()) {
            types.add(type.getSimpleName());
        }
        return method.getReturnType().getSimpleName() + " " + method.getName() + "(" + String.join(",", types) + ")";
    }

    private static void face() {
        int modifiers = Askhouse.class.getModifiers();
        Check.same("public and final", Modifier.isPublic(modifiers) && Modifier.isFinal(modifiers), true);
        List<String> seen = new ArrayList<>();
        Set<String> publicNames = new TreeSet<>();
        for (Method method : Askhouse.class.getDeclaredMethods()) {
            if (!Modifier.isPrivate(method.getModifiers()) && !method.isSynthetic()) {
                Check.same("public", Modifier.isPublic(method.getModifiers()), true);
                Check.same("not static", Modifier.isStatic(method.getModifiers()), false);
                seen.add(told(method));
                publicNames.add(method.getName());
            }
        }
        List<String> due = new ArrayList<>(List.of(METHODS));
        Collections.sort(due);
        Collections.sort(seen);
        Check.same("methods", seen, due);
        Constructor<?>[] constructors = Askhouse.class.getDeclaredConstructors();
        Check.same("constructors", constructors.length, 1);
        Check.same("the constructor", constructors[0].getParameterCount() == 0
            && Modifier.isPublic(constructors[0].getModifiers()), true);
        for (Field field : Askhouse.class.getDeclaredFields()) {
            Check.same("field " + field.getName(), Modifier.isPrivate(field.getModifiers()), true);
        }
        privateNames(Askhouse.class, publicNames);
        for (Class<?> inside : Askhouse.class.getDeclaredClasses()) {
            for (Method method : inside.getDeclaredMethods()) {
                Check.same("a name of its own: " + method.getName(), publicNames.contains(method.getName()), false);
            }
        }
    }

    private static void privateNames(Class<?> type, Set<String> publicNames) {
        for (Method method : type.getDeclaredMethods()) {
            if (Modifier.isPrivate(method.getModifiers())) {
                Check.same("a name of its own: " + method.getName(), publicNames.contains(method.getName()), false);
            }
        }
    }

    private static void classesInside() {
        Class<?>[] inside = Askhouse.class.getDeclaredClasses();
        Check.same("some twelve classes", inside.length <= 11, true);
        List<Class<?>> all = new ArrayList<>(List.of(inside));
        all.add(Askhouse.class);
        for (Class<?> type : all) {
            if (type != Askhouse.class) {
                Check.same("static", Modifier.isStatic(type.getModifiers()), true);
                Check.same("not public", Modifier.isPublic(type.getModifiers()), false);
            }
            int fields = 0;
            for (Field field : type.getDeclaredFields()) {
                boolean isStatic = Modifier.isStatic(field.getModifiers());
                fields += isStatic ? 0 : 1;
                Check.same("static is final: " + field.getName(), !isStatic || Modifier.isFinal(field.getModifiers()), true);
            }
            Check.same("some twenty fields: " + type.getSimpleName(), fields <= 20, true);
            for (Method method : type.getDeclaredMethods()) {
                Check.same("parameters of " + method.getName(), method.getParameterCount() <= 7, true);
            }
        }
    }

    private static void source() throws IOException {
        String path = System.getProperty("askhouse.source", "src/main/java/Askhouse.java");
        String source = Files.readString(Path.of(path));
        // Neither comments nor texts count.
        String code = source.replaceAll("(?s)/\\*.*?\\*/", "").replaceAll("//.*", "").replaceAll("\"[^\"\n]*\"", "\"\"");
        for (String word : List.of("package ", "->", "::", "try", "catch", "finally", "assert", "synchronized", "instanceof",
            "Exact", "BigInteger", "Random", "System.out", "System.nano", "System.current", "Thread", "String.", "hashCode",
            "equals", "getClass", "double", "float", "@", "Object")) {
            Check.same("without " + word, code.contains(word), false);
        }
        Check.same("texts are not joined by +", code.matches("(?s).*(\"\"\\s*\\+|\\+\\s*\"\").*"), false);
        for (String line : code.split("\n")) {
            if (line.startsWith("import")) {
                Check.same("import", line, "import java.util.Arrays;");
            }
            if (line.contains("throw new")) {
                Check.same("a plain throw: " + line.trim(), line.trim().matches(
                    "throw new (IllegalState|IllegalArgument|IndexOutOfBounds)Exception\\(\"\"\\);"), true);
            }
        }
        methodLengths(code.split("\n"));
    }

    private static void methodLengths(String[] lines) {
        int start = -1;
        String indent = "";
        for (int k = 0; k < lines.length; k++) {
            boolean isHead = lines[k].matches("( {4}| {8})[A-Za-z].*\\(.*") && !lines[k].endsWith(";");
            if (isHead) {
                start = k;
                indent = lines[k].replaceAll("\\S.*", "");
            }
            if (start >= 0 && lines[k].equals(indent + "}")) {
                Check.same("some sixty lines: " + lines[start].trim(), k - start < 60, true);
                start = -1;
            }
        }
    }
}
