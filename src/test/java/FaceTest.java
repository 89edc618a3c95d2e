import java.lang.reflect.Constructor;
import java.lang.reflect.Field;
import java.lang.reflect.Method;
import java.lang.reflect.Modifier;
import java.util.List;
import java.util.Set;
import java.util.TreeSet;

/** The public face: what the document's code block shows, and nothing else that is not private. */
public final class FaceTest {
    private static final List<String> CONSTANTS = List.of("BAD", "NOT", "NONE", "GREAT");
    private static final int[] VALUES = {-1, -2, -3, -4};
    private static final Set<String> METHODS = Set.of("host/5", "job/8", "weight/2", "why/2",
            "points/2", "left/2", "told/2", "place/1", "gone/0", "gang/1", "end/1", "fall/1",
            "rise/1", "move/2", "safe/0", "worst/0", "target/2", "plan/0", "step/2", "fewest/0",
            "would/2", "undo/0", "count/1");

    private FaceTest() {
    }

    /** The document shows it as a list of lines; each must be there in these words. */
    private static void documentShowsThisFace() {
        String block = Doc.codeBlock();
        Check.due("constants in the document", block.contains(
                "public static final int BAD = -1, NOT = -2, NONE = -3, GREAT = -4;"));
        Set<String> shown = new TreeSet<>();
        for (String line : block.split("\n")) {
            String some = line.trim();
            if (some.startsWith("public int ")) {
                String name = some.substring(11, some.indexOf('('));
                String between = some.substring(some.indexOf('(') + 1, some.indexOf(')'));
                shown.add(name + "/" + (between.isEmpty() ? 0 : between.split(",").length));
            }
        }
        Check.due("methods in the document " + shown, shown.equals(METHODS));
    }

    private static void classItself() {
        Class<?> c = HostPacker.class;
        int modifiers = c.getModifiers();
        Check.due("public and final", Modifier.isPublic(modifiers) && Modifier.isFinal(modifiers));
        Check.due("no package", c.getPackageName().isEmpty());
        Check.due("extends nothing", c.getSuperclass() == Object.class);
        Check.due("implements nothing", c.getInterfaces().length, 0);
        Check.due("of no type", c.getTypeParameters().length, 0);
    }

    private static void constants() throws IllegalAccessException {
        int found = 0;
        for (Field field : HostPacker.class.getDeclaredFields()) {
            int modifiers = field.getModifiers();
            int at = CONSTANTS.indexOf(field.getName());
            Check.due(field + " is private or of the face", at >= 0 || Modifier.isPrivate(modifiers));
            if (at >= 0) {
                found++;
                Check.due(field + " is a public constant",
                        modifiers == (Modifier.PUBLIC | Modifier.STATIC | Modifier.FINAL));
                Check.due(field + " is an int", field.getType() == int.class);
                Check.due(field + "", field.getInt(null), VALUES[at]);
            }
        }
        Check.due("constants", found, CONSTANTS.size());
    }

    private static void constructors() {
        Constructor<?>[] all = HostPacker.class.getDeclaredConstructors();
        Check.due("constructors", all.length, 1);
        Check.due("it is public", all[0].getModifiers(), Modifier.PUBLIC);
        Check.due("it takes nothing", all[0].getParameterCount(), 0);
        Check.due("it throws nothing", all[0].getExceptionTypes().length, 0);
    }

    private static void methods() {
        Set<String> found = new TreeSet<>();
        for (Method method : HostPacker.class.getDeclaredMethods()) {
            if (Modifier.isPrivate(method.getModifiers())) {
                Check.due(method + " bears no public name", !isOfTheFace(method.getName()));
            } else {
                found.add(method.getName() + "/" + method.getParameterCount());
                methodOfTheFace(method);
            }
        }
        Check.due("the methods " + found, found.equals(new TreeSet<>(METHODS)));
        Check.due("how many methods", found.size(), 23);
    }

    private static void methodOfTheFace(Method method) {
        Check.due(method + " is public, no more", method.getModifiers(), Modifier.PUBLIC);
        Check.due(method + " answers an int", method.getReturnType() == int.class);
        Check.due(method + " throws nothing", method.getExceptionTypes().length, 0);
        for (Class<?> type : method.getParameterTypes()) {
            Check.due(method + " takes ints", type == int.class);
        }
    }

    static boolean isOfTheFace(String name) {
        for (String method : METHODS) {
            if (method.startsWith(name + "/")) {
                return true;
            }
        }
        return false;
    }

    private static void classesInside() {
        for (Class<?> inside : HostPacker.class.getDeclaredClasses()) {
            int modifiers = inside.getModifiers();
            Check.due(inside + " is static", Modifier.isStatic(modifiers));
            Check.due(inside + " is private or package-visible",
                    !Modifier.isPublic(modifiers) && !Modifier.isProtected(modifiers));
            for (Method method : inside.getDeclaredMethods()) {
                boolean bears = Modifier.isPrivate(method.getModifiers()) && isOfTheFace(method.getName());
                Check.due(method + " bears no public name", !bears);
            }
        }
    }

    public static void main(String[] args) throws IllegalAccessException {
        documentShowsThisFace();
        classItself();
        constants();
        constructors();
        methods();
        classesInside();
        Check.close();
    }
}
