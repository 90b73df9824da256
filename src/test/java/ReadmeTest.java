import java.io.IOException;
import java.lang.reflect.Method;
import java.lang.reflect.Modifier;
import java.nio.file.Files;
import java.nio.file.Path;
import java.util.ArrayList;
import java.util.Collections;
import java.util.List;
import java.util.TreeSet;
import java.util.regex.Matcher;
import java.util.regex.Pattern;
import java.util.stream.Stream;

/** README.md: what a reader takes over as it stands does what the page says of it. */
public final class ReadmeTest {
    private static final Path PAGE = Path.of("README.md");
    private static final Path SOURCES = Path.of("src");
    private static final Path TESTS = SOURCES.resolve("test/java");
    private static final Pattern TEST = Pattern.compile("\\w+Test\\b");
    private static final Pattern SAVED_AS = Pattern.compile("Save it here as `(\\w+\\.java)`");

    private final String text = Files.readString(PAGE);
    private final List<String> programs = fenced("java");
    private final List<String> commands = fenced("sh");
    private final List<String> prints = fenced("text");

    private ReadmeTest() throws IOException {
    }

    public static void main(String[] args) throws IOException, InterruptedException {
        ReadmeTest test = new ReadmeTest();
        test.everyCall();
        test.everyTest();
        Check.same("the runner of the tests is there", Files.isExecutable(Path.of(".ci/run")), true);
        Check.same("programs", test.programs.size(), 1);
        Check.same("what they print", test.prints.size(), 1);
        Check.same("blocks of commands: for the program, and for a test", test.commands.size(), 2);
        test.takeOver();
        Check.end("ReadmeTest");
    }

    private List<String> fenced(String kind) {
        List<String> found = new ArrayList<>();
        Matcher block = Pattern.compile("(?ms)^```" + kind + "\n(.*?)^```$").matcher(text);
        while (block.find()) {
            found.add(block.group(1));
        }
        return found;
    }

    private void everyCall() {
        for (Method method : PressBox.class.getDeclaredMethods()) {
            if (Modifier.isPublic(method.getModifiers())) {
                String call = "box." + method.getName() + "(";
                Check.same("the program has " + call, String.join("", programs).contains(call), true);
            }
        }
    }

    private void everyTest() throws IOException {
        TreeSet<String> told = new TreeSet<>();
        Matcher name = TEST.matcher(text);
        while (name.find()) {
            told.add(name.group());
        }
        TreeSet<String> there = new TreeSet<>();
        try (Stream<Path> files = Files.list(TESTS)) {
            files.map(file -> file.getFileName().toString()).filter(file -> file.endsWith("Test.java"))
                .forEach(file -> there.add(file.replace(".java", "")));
        }
        Check.same("tests told " + told + ", there are " + there, told.equals(there), true);
    }

    /** In a directory of its own, so that nothing is left in this one. */
    private void takeOver() throws IOException, InterruptedException {
        Matcher file = SAVED_AS.matcher(text);
        boolean saved = file.find() && programs.size() == 1 && prints.size() == 1 && commands.size() == 2;
        Check.same("a program that can be saved", saved, true);
        if (!saved) {
            return;
        }
        Path place = Files.createTempDirectory("readme");
        try {
            copySources(place);
            Files.writeString(place.resolve(file.group(1)), programs.get(0));
            String printed = run(place, commands.get(0));
            Check.same("the program printed\n" + printed + "as the page says", printed.equals(prints.get(0)), true);
            String tested = run(place, commands.get(1));
            Check.same("the test printed\n" + tested + "that 0 are wrong", tested.contains(", 0 wrong"), true);
        } finally {
            remove(place);
        }
    }

    private static void copySources(Path place) throws IOException {
        for (Path from : below(SOURCES)) {
            Path to = place.resolve(from);
            if (Files.isDirectory(from)) {
                Files.createDirectories(to);
            } else {
                Files.copy(from, to);
            }
        }
    }

    private static String run(Path place, String command) throws IOException, InterruptedException {
        Process process = new ProcessBuilder("sh", "-e", "-c", command).directory(place.toFile())
            .redirectError(ProcessBuilder.Redirect.INHERIT).start();
        String printed = new String(process.getInputStream().readAllBytes());
        Check.same("exit code of " + command, process.waitFor(), 0);
        return printed;
    }

    private static void remove(Path place) throws IOException {
        List<Path> all = below(place);
        Collections.reverse(all);
        for (Path path : all) {
            Files.delete(path);
        }
    }

    /** A directory and what is in it, each behind the directory that it is in. */
    private static List<Path> below(Path top) throws IOException {
        List<Path> all = new ArrayList<>();
        try (Stream<Path> found = Files.walk(top)) {
            found.forEach(all::add);
        }
        return all;
    }
}
