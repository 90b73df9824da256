import java.io.IOException;
import java.lang.reflect.Constructor;
import java.lang.reflect.Field;
import java.lang.reflect.Member;
import java.lang.reflect.Method;
import java.lang.reflect.Modifier;
import java.nio.file.Files;
import java.nio.file.Path;
import java.util.Arrays;
import java.util.TreeSet;

/** The face of the document, no more and no less, and what ../shared/LANGUAGE.md says that can be read off. */
public final class FaceTest {
    private static final String[] METHODS = {"int layer()", "void font(int,int,int,int)", "void pack(int,int,int,int)",
        "void hide(int,int)", "int seal(int)", "int image(long)", "int drop(int)", "int ofLayer(int,int)",
        "int file(int,int,int)", "int document(int,int)", "int style(int,int,int)", "boolean include(int,int,boolean)",
        "int paragraph(int,int)", "int word(int,long)", "int reference(int,int)", "int version(int)",
        "int quota(int,int)", "int run(int,int,int)", "void write(int,int,int)", "int job(int,int)",
        "int line(int,int,int)", "int shows(int,int)", "int anew(int,int)", "int penalties(int)",
        "int differences(int,int)", "int left(int)"};
    private static final String[] CONSTANTS = {"NONE", "RAN", "KEPT", "STOPPED", "OPEN", "SEALED", "GONE"};
    private static final String[] FORBIDDEN = {"->", "::", "\" +", "+ \"", "import ", "catch", "finally", "synchronized",
        "assert", "static {", "Exact(", "double", "float", "instanceof", "System.", "Object"};

    public static void main(String[] args) throws IOException {
        TreeSet<String> open = new TreeSet<>();
        TreeSet<String> hidden = new TreeSet<>();
        for (Method method : PressBox.class.getDeclaredMethods()) {
            String name = method.getName();
            (Modifier.isPublic(method.getModifiers()) ? open : hidden).add(name);
            Check.same(name + " is public or private", openOrPrivate(method), true);
        }
        TreeSet<String> told = new TreeSet<>();
        for (Method method : PressBox.class.getMethods()) {
            if (method.getDeclaringClass() == PressBox.class) {
                told.add(method.getReturnType() + " " + method.getName()
                    + Arrays.toString(method.getParameterTypes()).replace("[", "(").replace("]", ")").replace(" ", ""));
            }
        }
        Check.same("the methods are those of the face", told.equals(new TreeSet<>(Arrays.asList(METHODS))), true);
        hidden.retainAll(open);
        Check.same("private methods with names of public ones", hidden.size(), 0);
        for (Constructor<?> made : PressBox.class.getDeclaredConstructors()) {
            Check.same("one public constructor", Modifier.isPublic(made.getModifiers()) && made.getParameterCount() == 0,
                true);
        }
        constants();
        classesInside();
        source();
        Check.end("FaceTest");
    }

    private static boolean openOrPrivate(Member member) {
        return Modifier.isPublic(member.getModifiers()) || Modifier.isPrivate(member.getModifiers());
    }

    private static void constants() {
        TreeSet<String> names = new TreeSet<>();
        for (Field field : PressBox.class.getDeclaredFields()) {
            Check.same(field.getName() + " is public or private", openOrPrivate(field), true);
            if (Modifier.isPublic(field.getModifiers())) {
                names.add(field.getName());
                Check.same(field.getName() + " is a constant",
                    Modifier.isStatic(field.getModifiers()) && Modifier.isFinal(field.getModifiers()), true);
            }
        }
        Check.same("the constants are those of the face", names.equals(new TreeSet<>(Arrays.asList(CONSTANTS))), true);
    }

    private static void classesInside() {
        Check.same("no package", PressBox.class.getPackageName().isEmpty(), true);
        Check.same("final", Modifier.isFinal(PressBox.class.getModifiers()), true);
        Check.same("some twelve classes", PressBox.class.getDeclaredClasses().length < 12, true);
        for (Class<?> inside : PressBox.class.getDeclaredClasses()) {
            int is = inside.getModifiers();
            Check.same(inside + " is static", Modifier.isStatic(is), true);
            Check.same(inside + " is not public", Modifier.isPublic(is) || Modifier.isProtected(is), false);
            int fields = 0;
            for (Field field : inside.getDeclaredFields()) {
                boolean fixed = Modifier.isStatic(field.getModifiers());
                fields += fixed ? 0 : 1;
                Check.same(inside + " has no static state", fixed && !Modifier.isFinal(field.getModifiers()), false);
            }
            Check.same(inside + " has some twenty fields", fields <= 20, true);
        }
    }

    private static void source() throws IOException {
        String text = Files.readString(Path.of("src/main/java/PressBox.java"));
        for (String part : FORBIDDEN) {
            Check.same("what the language leaves out: " + part, text.contains(part), false);
        }
        Check.same("signs 1 to 127 alone", text.chars().allMatch(sign -> sign > 0 && sign < 128), true);
    }
}
