import java.lang.management.ManagementFactory;
import java.lang.reflect.Constructor;
import java.lang.reflect.Field;
import java.lang.reflect.Method;
import java.lang.reflect.Modifier;
import java.nio.file.Files;
import java.nio.file.Path;
import java.util.ArrayList;
import java.util.Arrays;
import java.util.HashSet;
import java.util.List;
import java.util.Set;
import java.util.TreeSet;
import java.util.regex.Matcher;
import java.util.regex.Pattern;

/** That the program keeps to the rules of LANGUAGE.md which a test can see, and to its room. */
public final class LanguageTest {
    private static final Path SOURCE = Path.of("src/main/java/CheesePost.java");
    private static final String FACE = "height:2 fence:2 house:2 dairy:1 wheel:2 letter:2 burn:0 at:2 of:2 terms:2 feed:5"
            + " end:1 row:0 crumbs:0 law:0 orders:0 fault:0 stopped:0 force:1 asks:4 roll:5 path:5 broken:5 slips:3 ends:3"
            + " send:1 undo:0 came:2 aim:2 sure:3 post:1 trace:2 forget:0 fits:1 wall:3 share:4 read:6 odd:5 reply:2"
            + " trips:2 summer:2 drawn:1 image:1 back:1 count:1 status:0";
    private static int wrong = 0;

    private static void say(boolean bad, String what) {
        if (bad) {
            wrong++;
            System.out.println(what);
        }
    }

    public static void main(String[] args) throws Exception {
        String source = Files.readString(SOURCE);
        String bare = source.replaceAll("(?s)/\\*.*?\\*/", "").replaceAll("//[^\n]*", "").replaceAll("\"[^\"\n]*\"", "\"\"");
        words(bare);
        methodLengths(bare);
        face();
        room();
        System.out.println(wrong == 0 ? "the language is kept to" : wrong + " rules are not kept");
        if (wrong != 0) System.exit(1);
    }

    private static void words(String bare) {
        String[] not = {"\\bthrow\\b", "\\bthrows\\b", "\\btry\\b", "\\bcatch\\b", "\\bsynchronized\\b", "\\bassert\\b", "->",
            "::", "\\bpackage\\b", "\\bequals\\(", "\\bhashCode\\b", "\\btoString\\b", "\\w+Exact\\b", "\\bprotected\\b",
            "\\bwhile \\(true\\)", "\\bfor \\(;;\\)", "\"\"\\s*\\+", "\\+\\s*\"\"", "\\bThread\\b", "\\bclone\\(", "\\bString\\[\\]",
            "\\bnew \\w+\\(\\)\\s*\\{", "System\\.(?!arraycopy)"};
        for (String n : not) {
            Matcher m = Pattern.compile(n).matcher(bare);
            say(m.find(), "the program has " + n);
        }
        Matcher imports = Pattern.compile("import ([^;]+);").matcher(bare);
        Set<String> allowed = new HashSet<>(Arrays.asList("java.util.Arrays", "java.util.ArrayList", "java.util.List"));
        while (imports.find()) {
            say(!allowed.contains(imports.group(1)), "the program imports " + imports.group(1));
        }
    }

    private static void methodLengths(String bare) {
        String[] lines = bare.split("\n");
        for (int i = 0; i < lines.length; i++) {
            if (!lines[i].matches(" {4,8}[a-zA-Z].*\\) \\{")) continue;
            int indent = lines[i].indexOf(lines[i].trim());
            int end = i + 1;
            while (end < lines.length && !lines[end].equals(" ".repeat(indent) + "}")) end++;
            say(end - i > 60, "a method is long: " + lines[i].trim());
        }
    }

    private static void face() {
        Set<String> due = new TreeSet<>(Arrays.asList(FACE.split(" ")));
        Set<String> names = new HashSet<>();
        for (String d : due) names.add(d.substring(0, d.indexOf(':')));
        Set<String> got = new TreeSet<>();
        for (Method m : CheesePost.class.getDeclaredMethods()) {
            boolean isPublic = Modifier.isPublic(m.getModifiers());
            if (isPublic) got.add(m.getName() + ":" + m.getParameterCount());
            say(isPublic && m.getReturnType() != int.class, m + " answers no int");
            say(!isPublic && !Modifier.isPrivate(m.getModifiers()), m + " is seen outside");
            say(!isPublic && names.contains(m.getName()), m + " bears the name of a public one");
        }
        say(!got.equals(due), "the face is " + got);
        for (Constructor<?> c : CheesePost.class.getDeclaredConstructors()) {
            say(c.getParameterCount() != 0 || !Modifier.isPublic(c.getModifiers()), "a constructor is " + c);
        }
        say(!Modifier.isFinal(CheesePost.class.getModifiers()), "the class is not final");
        List<Class<?>> all = new ArrayList<>(Arrays.asList(CheesePost.class.getDeclaredClasses()));
        all.add(CheesePost.class);
        say(all.size() > 12, "there are " + all.size() + " classes");
        for (Class<?> c : all) classKept(c, names);
    }

    private static void classKept(Class<?> c, Set<String> names) {
        int fields = 0;
        for (Field f : c.getDeclaredFields()) {
            boolean isStatic = Modifier.isStatic(f.getModifiers());
            if (!isStatic) fields++;
            say(isStatic && !Modifier.isFinal(f.getModifiers()), f + " is static and not final");
            say(c == CheesePost.class && !Modifier.isPrivate(f.getModifiers()) && !f.getName().equals("NONE"), f + " is seen outside");
        }
        say(fields > 20, c + " has " + fields + " fields");
        say(c != CheesePost.class && !Modifier.isStatic(c.getModifiers()), c + " is not static");
        for (Method m : c.getDeclaredMethods()) {
            say(m.getParameterCount() > 7, m + " takes more than seven");
            say(c != CheesePost.class && names.contains(m.getName()), m + " bears the name of a public one");
        }
    }

    /** The dearest calls, 512 of them, and what they make: 7.3 million elements of four bytes are the room. */
    private static void room() {
        com.sun.management.ThreadMXBean bean = (com.sun.management.ThreadMXBean) ManagementFactory.getThreadMXBean();
        long id = Thread.currentThread().getId();
        long before = bean.getThreadAllocatedBytes(id);
        CheesePost x = new CheesePost();
        for (int i = 0; i < 8; i++) {
            x.wheel(i + 1, i);
            x.house(8 * i + 9 + i % 3, i);
            x.letter(i, 50);
            x.reply(i, 5);
        }
        for (int i = 0; i < 4; i++) x.dairy(2 * i);
        int calls = 36;
        for (int i = 0; i < 70; i++) {
            // "slows 1;eats if x<3 " and blanks
            x.feed(0x736c6f77, 0x7320313b, 0x65617473, 0x20696620, 0x783c3320);
            x.law();
            x.force(i % 6);
            x.sure(0, 1, 0);
            x.post(3);
            x.trips(0, 2);
            calls += 6;
        }
        while (calls < 512) {
            x.slips(25, 2, 0);
            calls++;
        }
        long made = bean.getThreadAllocatedBytes(id) - before;
        say(made > 7_300_000L * 4 / 4, "512 calls made " + made + " bytes");
        System.out.println("512 of the dearest calls made " + made + " bytes");
    }
}
