import java.io.IOException;
import java.lang.reflect.Constructor;
import java.lang.reflect.Executable;
import java.lang.reflect.Field;
import java.lang.reflect.Method;
import java.lang.reflect.Modifier;
import java.nio.file.Files;
import java.nio.file.Path;
import java.util.Arrays;
import java.util.List;
import java.util.Set;
import java.util.TreeSet;
import java.util.regex.Matcher;
import java.util.regex.Pattern;

/** The document's face, no more and no less, and what of LANGUAGE.md a test can see. */
public final class FaceTest {
    private static final Path SOURCE = Path.of("src/main/java/RollPlanner.java");

    private static final List<String> FACE = List.of(
            "boolean ask(int, int)",
            "boolean begin(int)",
            "int cut(int, int)",
            "int drop()",
            "int kind(int, int)",
            "int of(int)",
            "int ofKind(int, int)",
            "int price(int, int, int, int)",
            "int rolls()",
            "int with(int, int, int, int)",
            "long floorBottom()",
            "long floorTop()");

    private final Checks checks = new Checks();

    public static void main(String[] args) throws IOException {
        FaceTest test = new FaceTest();
        test.faceOfTheDocument(new Document(test.checks).face());
        test.face();
        test.classesInside();
        for (Class<?> type : RollPlanner.class.getDeclaredClasses()) {
            test.membersOf(type);
        }
        test.membersOf(RollPlanner.class);
        test.source();
        test.checks.end("FaceTest");
    }

    /** The list above is the document's, and the document has nothing else. */
    private void faceOfTheDocument(List<String> lines) {
        if (lines.isEmpty()) {
            return;
        }
        Set<String> due = new TreeSet<>(List.of("static final int NONE = -1", "RollPlanner()"));
        due.addAll(FACE);
        Set<String> found = new TreeSet<>();
        for (String line : lines) {
            found.add(line.replace("public ", "").replaceAll("int \\w+([,)])", "int$1").replace(";", ""));
        }
        checks.same("the face of the document", found.toString(), due.toString());
    }

    private void face() {
        checks.holds("the class is public and final", RollPlanner.class.getModifiers() == (Modifier.PUBLIC | Modifier.FINAL));
        Set<String> methods = new TreeSet<>();
        for (Method method : RollPlanner.class.getDeclaredMethods()) {
            if (!Modifier.isPrivate(method.getModifiers())) {
                checks.holds(method + " is public, of an object", method.getModifiers() == Modifier.PUBLIC);
                methods.add(signature(method));
            }
        }
        checks.same("the methods of the face", methods.toString(), FACE.toString());
        Constructor<?>[] constructors = RollPlanner.class.getDeclaredConstructors();
        checks.same("constructors", constructors.length, 1);
        checks.holds("it is public", Modifier.isPublic(constructors[0].getModifiers()));
        checks.same("its parameters", constructors[0].getParameterCount(), 0);
        for (Field field : RollPlanner.class.getDeclaredFields()) {
            boolean isNone = field.toString().equals("public static final int RollPlanner.NONE");
            checks.holds(field + " is NONE or private", isNone || Modifier.isPrivate(field.getModifiers()));
        }
        checks.same("NONE", RollPlanner.NONE, -1);
    }

    private static String signature(Method method) {
        String parameters = Arrays.toString(method.getParameterTypes());
        return method.getReturnType() + " " + method.getName() + "(" + parameters.substring(1, parameters.length() - 1) + ")";
    }

    private void classesInside() {
        Class<?>[] inside = RollPlanner.class.getDeclaredClasses();
        checks.holds("twelve classes at most", inside.length < 12);
        for (Class<?> type : inside) {
            int modifiers = type.getModifiers();
            checks.holds(type + " is static", Modifier.isStatic(modifiers));
            checks.refused(type + " can be seen from outside", Modifier.isPublic(modifiers) || Modifier.isProtected(modifiers));
        }
    }

    private void membersOf(Class<?> type) {
        int fields = 0;
        for (Field field : type.getDeclaredFields()) {
            boolean isStatic = Modifier.isStatic(field.getModifiers());
            checks.holds(field + " is final, if static", !isStatic || Modifier.isFinal(field.getModifiers()));
            fields += isStatic ? 0 : 1;
        }
        checks.holds(type + " has twenty fields at most", fields <= 20);
        for (Executable method : type.getDeclaredMethods()) {
            checks.holds(method + " takes seven parameters at most", method.getParameterCount() <= 7);
            boolean isOfTheFace = FACE.stream().anyMatch(line -> line.contains(" " + method.getName() + "("));
            checks.holds(method + " bears no name of the face", !isOfTheFace || type == RollPlanner.class);
        }
    }

    private void source() throws IOException {
        String code = Files.readString(SOURCE).replaceAll("(?s)/\\*.*?\\*/", "").replaceAll("//.*", "");
        Pattern banned = Pattern.compile("\\b(throw|throws|try|catch|synchronized|assert|package|native|volatile)\\b|->|::|Exact\\(");
        Matcher found = banned.matcher(code);
        checks.same("a word that is ruled out", found.find() ? found.group() : "none", "none");
        Matcher imports = Pattern.compile("import ([^;]*);").matcher(code);
        while (imports.find()) {
            checks.holds("import " + imports.group(1), Set.of("java.util.Arrays").contains(imports.group(1)));
        }
        Matcher calls = Pattern.compile("\\b(System|Arrays|Math|Integer|Long)\\.(\\w+)").matcher(code);
        Set<String> allowed = Set.of("System.arraycopy", "Arrays.fill", "Math.min", "Math.max");
        while (calls.find()) {
            checks.holds(calls.group() + " is of the library that is allowed", allowed.contains(calls.group()));
        }
    }
}
