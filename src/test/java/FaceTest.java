import java.io.IOException;
import java.lang.reflect.Constructor;
import java.lang.reflect.Field;
import java.lang.reflect.Member;
import java.lang.reflect.Method;
import java.lang.reflect.Modifier;
import java.nio.file.Files;
import java.nio.file.Path;
import java.util.Arrays;
import java.util.StringJoiner;
import java.util.TreeSet;

/** The face of the document, no more and no less, and what ../shared/LANGUAGE.md says that can be read off. */
public final class FaceTest {
    private static final String DOCUMENT = "../shared/DOC.md";
    private static final int METHODS = 26;
    private static final String[] CONSTANTS = {"NONE = -1", "RAN = 0", "KEPT = 1", "STOPPED = 2", "OPEN = 0",
        "SEALED = 1", "GONE = 2"};
    private static final String[] FORBIDDEN = {"->", "::", "\" +", "+ \"", "import ", "catch", "finally",
        "synchronized", "assert", "static {", "Exact(", "double", "float", "instanceof", "System.", "Object"};

    public static void main(String[] args) throws IOException {
        names();
        methods();
        constructors();
        constants();
        classesInside();
        source();
        Check.end("FaceTest");
    }

    private static void names() {
        TreeSet<String> open = new TreeSet<>();
        TreeSet<String> hidden = new TreeSet<>();
        for (Method method : PressBox.class.getDeclaredMethods()) {
            String name = method.getName();
            (Modifier.isPublic(method.getModifiers()) ? open : hidden).add(name);
            Check.same(name + " is public or private", openOrPrivate(method), true);
        }
        hidden.retainAll(open);
        Check.same("private methods with names of public ones", hidden.size(), 0);
    }

    /** With the exceptions that each declares, in their order: the machine does not ask for them, the document does. */
    private static void methods() throws IOException {
        TreeSet<String> due = faceOfDocument();
        Check.same("the methods of the document's face", due.size(), METHODS);
        for (Method method : PressBox.class.getDeclaredMethods()) {
            if (Modifier.isPublic(method.getModifiers())) {
                String told = tell(method);
                Check.same("the document has " + told, due.remove(told), true);
            }
        }
        for (String wanting : due) {
            Check.same("the class has " + wanting, false, true);
        }
    }

    private static String tell(Method method) {
        String text = Modifier.toString(method.getModifiers()) + " " + method.getReturnType() + " " + method.getName()
            + names(method.getParameterTypes(), "(", ")");
        return text + names(method.getExceptionTypes(), " throws ", "");
    }

    private static String names(Class<?>[] types, String ahead, String behind) {
        StringJoiner names = new StringJoiner(", ", ahead, behind);
        names.setEmptyValue(behind.isEmpty() ? "" : ahead + behind);
        for (Class<?> type : types) {
            names.add(type.getSimpleName());
        }
        return names.toString();
    }

    /** The methods of the document's face as tell() tells them: without the names of the arguments. */
    private static TreeSet<String> faceOfDocument() throws IOException {
        TreeSet<String> face = new TreeSet<>();
        for (String row : Files.readAllLines(Path.of(DOCUMENT))) {
            if (row.startsWith("    public ") && row.endsWith(";") && row.contains("(") && !row.contains("PressBox(")) {
                face.add(row.strip().replace(";", "").replaceAll("(int|long|boolean) \\w+(?=[,)])", "$1"));
            }
        }
        return face;
    }

    private static void constructors() {
        for (Constructor<?> made : PressBox.class.getDeclaredConstructors()) {
            Check.same("one public constructor", Modifier.isPublic(made.getModifiers()) && made.getParameterCount() == 0
                && made.getExceptionTypes().length == 0, true);
        }
    }

    private static boolean openOrPrivate(Member member) {
        return Modifier.isPublic(member.getModifiers()) || Modifier.isPrivate(member.getModifiers());
    }

    private static void constants() {
        TreeSet<String> told = new TreeSet<>();
        for (Field field : PressBox.class.getDeclaredFields()) {
            Check.same(field.getName() + " is public or private", openOrPrivate(field), true);
            if (Modifier.isPublic(field.getModifiers())) {
                told.add(field.getName() + " = " + numberOf(field));
                Check.same(field.getName() + " is a constant",
                    Modifier.isStatic(field.getModifiers()) && Modifier.isFinal(field.getModifiers()), true);
            }
        }
        Check.same("the constants are those of the face", told.equals(new TreeSet<>(Arrays.asList(CONSTANTS))), true);
    }

    private static String numberOf(Field constant) {
        try {
            return String.valueOf(constant.getInt(null));
        } catch (IllegalAccessException e) {
            return "not to be read";
        }
    }

    private static void classesInside() {
        Check.same("no package", PressBox.class.getPackageName().isEmpty(), true);
        Check.same("final", Modifier.isFinal(PressBox.class.getModifiers()), true);
        Check.same("some twelve classes", PressBox.class.getDeclaredClasses().length < 12, true);
        for (Class<?> inside : PressBox.class.getDeclaredClasses()) {
            int is = inside.getModifiers();
            Check.same(inside + " is static", Modifier.isStatic(is), true);
            Check.same(inside + " is not public", Modifier.isPublic(is) || Modifier.isProtected(is), false);
            int fields = 0;
            for (Field field : inside.getDeclaredFields()) {
                boolean fixed = Modifier.isStatic(field.getModifiers());
                fields += fixed ? 0 : 1;
                Check.same(inside + " has no static state", fixed && !Modifier.isFinal(field.getModifiers()), false);
            }
            Check.same(inside + " has some twenty fields", fields <= 20, true);
        }
    }

    private static void source() throws IOException {
        String text = Files.readString(Path.of("src/main/java/PressBox.java"));
        for (String part : FORBIDDEN) {
            Check.same("what the language leaves out: " + part, text.contains(part), false);
        }
        Check.same("signs 1 to 127 alone", text.chars().allMatch(sign -> sign > 0 && sign < 128), true);
    }
}
