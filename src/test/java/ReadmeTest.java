import java.io.File;
import java.io.IOException;
import java.lang.reflect.Method;
import java.lang.reflect.Modifier;
import java.nio.charset.StandardCharsets;
import java.nio.file.Files;
import java.nio.file.Path;
import java.util.ArrayList;
import java.util.List;
import java.util.Set;
import java.util.TreeSet;
import java.util.regex.Matcher;
import java.util.regex.Pattern;
import java.util.stream.Collectors;
import java.util.stream.Stream;

/**
 * That README.md tells what is so: its program and its commands are run in a copy of the checkout, its texts are read,
 * its calls and its tests are those that there are.
 */
public final class ReadmeTest {
    private static final Path TESTS = Path.of("src/test/java");
    private static final Path SHARED_TESTS = Path.of("../shared/tests");
    private static final String WHOLE = ".ci/run";
    private static int wrong = 0;

    private static void say(boolean bad, String what) {
        if (bad) {
            wrong++;
            System.out.println(what);
        }
    }

    public static void main(String[] args) throws Exception {
        String page = Files.readString(Path.of("README.md"));
        calls(page);
        texts(page);
        tests(page);
        commands(page);
        System.out.println(wrong == 0 ? "README.md tells what is so" : wrong + " things of README.md are not so");
        if (wrong != 0) System.exit(1);
    }

    /** What stands between the fences of a kind, each block for itself. */
    private static List<String> blocks(String page, String kind) {
        List<String> found = new ArrayList<>();
        Matcher m = Pattern.compile("(?ms)^```" + kind + "\n(.*?)^```$").matcher(page);
        while (m.find()) found.add(m.group(1));
        say(found.isEmpty(), "README.md has no block of " + kind);
        return found;
    }

    private static void calls(String page) {
        Set<String> face = new TreeSet<>();
        for (Method m : CheesePost.class.getDeclaredMethods()) {
            if (Modifier.isPublic(m.getModifiers())) face.add(m.getName() + ":" + m.getParameterCount());
        }
        Set<String> told = new TreeSet<>();
        Matcher rows = Pattern.compile("(?m)^\\| (`.*?`) \\| ").matcher(page);
        while (rows.find()) {
            Matcher m = Pattern.compile("`(\\w+)\\(([\\w, ]*)\\)`").matcher(rows.group(1));
            while (m.find()) told.add(m.group(1) + ":" + (m.group(2).isEmpty() ? 0 : m.group(2).split(", ").length));
        }
        say(!told.equals(face), "README.md tells of the calls " + told + ", there are " + face);
    }

    private static void texts(String page) {
        for (String line : String.join("", blocks(page, "law")).split("\n")) {
            CheesePost x = new CheesePost();
            put(x, line);
            say(x.law() != 0, "no law, by its byte " + x.fault() + ": " + line);
        }
        for (String line : String.join("", blocks(page, "orders")).split("\n")) {
            CheesePost x = new CheesePost();
            put(x, line);
            say(x.orders() == -6, "no orders, by their byte " + x.fault() + ": " + line);
        }
    }

    private static void put(CheesePost x, String text) {
        for (int i = 0; i < text.length(); i += 20) {
            int[] four = new int[5];
            for (int j = 0; j < 20; j++) {
                four[j / 4] = four[j / 4] << 8 | (i + j < text.length() ? text.charAt(i + j) : ' ');
            }
            x.feed(four[0], four[1], four[2], four[3], four[4]);
        }
        x.end(text.length());
    }

    private static void tests(String page) throws IOException {
        Set<String> there = new TreeSet<>();
        for (File f : TESTS.toFile().listFiles()) {
            if (f.getName().endsWith("Test.java")) there.add(f.getName().replace(".java", ""));
        }
        Set<String> told = new TreeSet<>();
        Matcher m = Pattern.compile("`(\\w+Test)`").matcher(page);
        while (m.find()) told.add(m.group(1));
        say(!told.equals(there), "README.md tells of the tests " + told + ", there are " + there);
    }

    /** Runs all commands but that which runs this test, in their order; the program must print what the page says. */
    private static void commands(String page) throws Exception {
        Path room = Files.createTempDirectory("readme");
        Path checkout = Files.createDirectory(room.resolve("checkout"));
        copy(Path.of("src"), checkout.resolve("src"));
        copy(SHARED_TESTS, Files.createDirectory(room.resolve("shared")).resolve("tests"));
        for (String program : blocks(page, "java")) {
            Matcher m = Pattern.compile("public class (\\w+)").matcher(program);
            boolean named = m.find();
            say(!named, "a program of README.md has no public class");
            if (named) Files.writeString(checkout.resolve(m.group(1) + ".java"), program);
        }
        List<String> printed = new ArrayList<>();
        for (String command : blocks(page, "sh")) {
            if (command.trim().equals(WHOLE)) {
                say(!Files.isExecutable(Path.of(WHOLE)), WHOLE + " can't be run");
            } else {
                printed.add(run(checkout, command));
            }
        }
        for (String text : blocks(page, "text")) {
            say(!printed.contains(text), "README.md tells that this is printed:\n" + text + "printed was:\n" + printed);
        }
        delete(room);
    }

    private static String run(Path in, String command) throws Exception {
        ProcessBuilder builder = new ProcessBuilder("sh", "-e", "-c", command).directory(in.toFile());
        // Not among what is printed: a machine can tell its options there, of which the page does not tell.
        builder.redirectError(ProcessBuilder.Redirect.INHERIT);
        Process process = builder.start();
        process.getOutputStream().close();
        String printed = new String(process.getInputStream().readAllBytes(), StandardCharsets.UTF_8);
        int code = process.waitFor();
        say(code != 0, "ended with " + code + ":\n" + command + printed);
        return printed;
    }

    private static List<Path> under(Path root) throws IOException {
        try (Stream<Path> all = Files.walk(root)) {
            return all.collect(Collectors.toList());
        }
    }

    private static void copy(Path from, Path to) throws IOException {
        for (Path p : under(from)) {
            Path there = to.resolve(from.relativize(p).toString());
            // What is shared can't be written to, and so would be its copies, if they were made by Files.copy.
            if (Files.isDirectory(p)) {
                Files.createDirectories(there);
            } else {
                Files.write(there, Files.readAllBytes(p));
            }
        }
    }

    private static void delete(Path room) throws IOException {
        List<Path> all = under(room);
        for (int i = all.size() - 1; i >= 0; i--) Files.delete(all.get(i));
    }
}
