import java.lang.reflect.Constructor;
import java.lang.reflect.Field;
import java.lang.reflect.Method;
import java.lang.reflect.Modifier;
import java.nio.file.Files;
import java.nio.file.Path;
import java.util.Set;
import java.util.TreeSet;
import java.util.regex.Matcher;
import java.util.regex.Pattern;

/** The public face as the document has it, and those rules of LANGUAGE.md that a scan can see. */
public final class LanguageTest {
    private static final Set<String> FACE = Set.of("host/5", "job/8", "weight/2", "why/2",
            "points/2", "left/2", "told/2", "place/1", "gone/0", "gang/1", "end/1", "fall/1",
            "rise/1", "move/2", "safe/0", "worst/0", "target/2", "plan/0", "step/2", "fewest/0",
            "would/2", "undo/0", "count/1");
    private static final String[] BANNED = {"throw", "try", "catch", "finally", "synchronized",
        "assert", "->", "::", "Exact\\(", "hashCode", "Random", "System\\.(?!arraycopy)", "Thread",
        "import (?!java\\.util\\.(Arrays|ArrayList|List|Iterator);)", "native", "volatile", "transient"};
    private static final int MOST_LINES = 60;
    private static final int MOST_CLASSES = 12;
    private static final int MOST_FIELDS = 20;

    private LanguageTest() {
    }

    private static void constants() throws Exception {
        String[] names = {"BAD", "NOT", "NONE", "GREAT"};
        for (int i = 0; i < names.length; i++) {
            Field field = HostPacker.class.getField(names[i]);
            Check.due(names[i], field.getInt(null), -1 - i);
        }
    }

    private static void members() {
        Class<?> c = HostPacker.class;
        Check.due("public and final", Modifier.isPublic(c.getModifiers()) && Modifier.isFinal(c.getModifiers()));
        Set<String> found = new TreeSet<>();
        for (Method m : c.getDeclaredMethods()) {
            String name = m.getName() + "/" + m.getParameterCount();
            if (Modifier.isPublic(m.getModifiers())) {
                found.add(name);
                Check.due(name + " answers an int", m.getReturnType() == int.class);
            } else {
                Check.due(name + " is private", Modifier.isPrivate(m.getModifiers()));
                Check.due(name + " is no public name", !isPublicName(m.getName()));
                Check.due(name + " takes at most seven", m.getParameterCount() <= 7);
            }
        }
        Check.due("the methods " + found, found.equals(new TreeSet<>(FACE)));
        for (Field f : c.getDeclaredFields()) {
            boolean constant = Modifier.isPublic(f.getModifiers());
            Check.due(f.getName() + " is private or of the face", Modifier.isPrivate(f.getModifiers())
                    || constant && Set.of("BAD", "NOT", "NONE", "GREAT").contains(f.getName()));
        }
        Constructor<?>[] all = c.getDeclaredConstructors();
        Check.due("constructors", all.length, 1);
        Check.due("public constructor", Modifier.isPublic(all[0].getModifiers()) && all[0].getParameterCount() == 0);
    }

    private static boolean isPublicName(String name) {
        for (String of : FACE) {
            if (of.startsWith(name + "/")) {
                return true;
            }
        }
        return false;
    }

    private static void insideClasses() {
        Class<?>[] inside = HostPacker.class.getDeclaredClasses();
        Check.due("classes", inside.length + 1 <= MOST_CLASSES);
        for (Class<?> c : inside) {
            Check.due(c + " is static", Modifier.isStatic(c.getModifiers()));
            Check.due(c + " is not public", !Modifier.isPublic(c.getModifiers()) && !Modifier.isProtected(c.getModifiers()));
            int fields = 0;
            for (Field f : c.getDeclaredFields()) {
                boolean isStatic = Modifier.isStatic(f.getModifiers());
                fields += isStatic ? 0 : 1;
                Check.due(f + ": static ones are final", !isStatic || Modifier.isFinal(f.getModifiers()));
            }
            Check.due(c + " has few fields", fields <= MOST_FIELDS);
            for (Method m : c.getDeclaredMethods()) {
                Check.due(m + " bears no public name", !isPublicName(m.getName()));
                Check.due(m + " takes at most seven", m.getParameterCount() <= 7);
            }
        }
    }

    private static void source() throws Exception {
        String text = Files.readString(Path.of("src/main/java/HostPacker.java"));
        String code = text.replaceAll("(?s)/\\*.*?\\*/", "").replaceAll("//[^\n]*", "")
                .replaceAll("(?m)(case [^:;{]*|default) ->", "$1:");
        for (String banned : BANNED) {
            Pattern p = Pattern.compile(banned.matches("[a-z]+") ? "\\b" + banned + "\\b" : banned);
            Matcher m = p.matcher(code);
            Check.due("no " + banned, !m.find());
        }
        Check.due("no package", !code.contains("package"));
        int start = 0;
        String[] lines = code.split("\n");
        for (int i = 0; i < lines.length; i++) {
            if (lines[i].matches(" {4,8}[a-zA-Z].*\\(.*\\{")) {
                start = i;
            }
            if (lines[i].matches(" {4,8}\\}")) {
                Check.due("short up to line " + i, i - start <= MOST_LINES || lines[i].startsWith("    }"));
            }
            Check.due("line " + i + " is plain ASCII", lines[i].chars().allMatch(s -> s < 127));
        }
    }

    /** Numbers of every size, in every state, and past the 512th call: nothing may throw. */
    private static void wildCalls() {
        int[] wild = {Integer.MIN_VALUE, -1001, -3, -2, -1, 0, 1, 2, 3, 7, 8, 9, 10, 23, 24, 30, 255, 256,
            1000, 1001, Integer.MAX_VALUE};
        HostPacker x = new HostPacker();
        for (int round = 0; round < 3; round++) {
            for (int a : wild) {
                x.host(a, 5, 5, 1, 0);
                x.job(round, a, 1, 1, 1, 1, 1, 1);
                for (int b : wild) {
                    twoNumbers(x, a, b);
                }
                oneNumber(x, a);
            }
        }
        Check.due("still answers", x.count(8), -1);
    }

    private static void twoNumbers(HostPacker x, int a, int b) {
        x.weight(a, b);
        x.why(a, b);
        x.points(a, b);
        x.left(a, b);
        x.told(a, b);
        x.move(a, b);
        x.target(a, b);
        x.step(a, b);
        x.would(a, b);
    }

    private static void oneNumber(HostPacker x, int a) {
        x.place(a);
        x.gang(a);
        x.plan();
        x.safe();
        x.worst();
        x.fewest();
        x.fall(a);
        x.count(a);
        x.rise(a);
        x.end(a);
        x.gone();
        x.undo();
    }

    public static void main(String[] args) throws Exception {
        constants();
        members();
        insideClasses();
        source();
        wildCalls();
        Check.close();
    }
}
