import java.lang.reflect.Constructor;
import java.lang.reflect.Field;
import java.lang.reflect.Method;
import java.lang.reflect.Modifier;
import java.util.Arrays;
import java.util.Set;
import java.util.TreeSet;

/** The public face is that of the document, and nothing else can be seen (LANGUAGE.md, rules 1 and 5). */
public final class FaceTest {
    private static final String A = " throws IllegalArgumentException";
    private static final String I = ", IndexOutOfBoundsException";
    private static final String S = ", IllegalStateException";

    public static void main(String[] args) {
        Check.same("NONE", -1, BargainTree.NONE);
        Check.same("NEVER", -2, BargainTree.NEVER);
        Check.same("the class is public and final", Modifier.PUBLIC | Modifier.FINAL, BargainTree.class.getModifiers());
        methods();
        fields();
        Constructor<?>[] made = BargainTree.class.getDeclaredConstructors();
        Check.same("constructors", 1, made.length);
        Check.same("the constructor is public", Modifier.PUBLIC, made[0].getModifiers());
        Check.same("its parameters", 0, made[0].getParameterCount());
        for (Class<?> inside : BargainTree.class.getDeclaredClasses()) {
            int seen = inside.getModifiers() & (Modifier.PUBLIC | Modifier.PROTECTED);
            Check.same(inside + " is not public or protected", 0, seen);
            Check.same(inside + " is static", Modifier.STATIC, inside.getModifiers() & Modifier.STATIC);
        }
        Check.end();
    }

    private static void methods() {
        Set<String> due = new TreeSet<>(Set.of("int agent(int)" + A + S, "void own(int, int, int)" + A + S,
            "int pair(int, int)" + A + S, "void cost(int, int, int, int, int)" + A + S,
            "int start() throws IllegalStateException", "int letter(int, int)" + A + I + S,
            "int told(int, int)", "int again(int)" + A + S, "int change(int, int, int, int, int)" + A + S));
        due.addAll(Set.of("int done()", "int value(int)", "int total()", "int parent(int)", "int separator(int)",
            "int entries(int)", "int tables()"));
        Set<String> names = new TreeSet<>();
        for (Method m : BargainTree.class.getDeclaredMethods()) {
            if (Modifier.isPublic(m.getModifiers())) {
                names.add(m.getName());
                Check.same(told(m) + " is a method of the document", 1, due.remove(told(m)) ? 1 : 0);
            }
        }
        Check.same("methods that are missing: " + due, 0, due.size());
        for (Method m : BargainTree.class.getDeclaredMethods()) {
            if (!Modifier.isPublic(m.getModifiers()) && !m.isSynthetic()) {
                Check.same(m + " is private", Modifier.PRIVATE, m.getModifiers() & Modifier.PRIVATE);
                Check.same(m + " bears the name of a public one", 0, names.contains(m.getName()) ? 1 : 0);
            }
        }
    }

    private static String told(Method m) {
        String text = m.getReturnType() + " " + m.getName() + list("(", m.getParameterTypes()) + ")";
        return m.getExceptionTypes().length == 0 ? text : text + list(" throws ", m.getExceptionTypes());
    }

    private static String list(String before, Class<?>[] types) {
        return before + String.join(", ", Arrays.stream(types).map(Class::getSimpleName).toList());
    }

    private static void fields() {
        for (Field f : BargainTree.class.getDeclaredFields()) {
            if (f.isSynthetic()) {
                continue;
            }
            boolean constant = f.getName().equals("NONE") || f.getName().equals("NEVER");
            int due = constant ? Modifier.PUBLIC : Modifier.PRIVATE;
            Check.same(f + " is seen as it should be", due, f.getModifiers() & (Modifier.PUBLIC | Modifier.PRIVATE));
            if (Modifier.isStatic(f.getModifiers())) {
                Check.same(f + " is final", Modifier.FINAL, f.getModifiers() & Modifier.FINAL);
            }
        }
    }
}
