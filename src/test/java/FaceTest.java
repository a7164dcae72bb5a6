import java.lang.reflect.Constructor;
import java.lang.reflect.Field;
import java.lang.reflect.Member;
import java.lang.reflect.Method;
import java.lang.reflect.Modifier;
import java.util.Arrays;
import java.util.HashSet;
import java.util.Set;
import java.util.TreeSet;
import java.util.stream.Collectors;

/** The public face: the constants, the constructor, the methods with their throws clauses, and nothing else. */
public final class FaceTest {
    private static final String FACE = """
            NONE = -1
            LEAST = 0
            MOST = 1
            SAME = 2
            RISING = 3
            UNTRIED = 0
            PASSED = 1
            FAILED = 2
            int number(int) IllegalStateException
            int cell(int) IndexOutOfBoundsException IllegalStateException
            int apply(int) IllegalArgumentException IllegalStateException
            int wipe()
            int enter(int) IndexOutOfBoundsException IllegalStateException
            int input(int, int, int) IndexOutOfBoundsException IllegalArgumentException
            int set(int, int) IndexOutOfBoundsException IllegalStateException IllegalArgumentException
            int tell(int, int, int) IndexOutOfBoundsException IllegalArgumentException IllegalStateException
            int drop(int) IndexOutOfBoundsException
            int own(int, int) IndexOutOfBoundsException IllegalArgumentException
            int attempt(int, int, int) IndexOutOfBoundsException IllegalArgumentException
            int waive(int, int, int) IndexOutOfBoundsException IllegalArgumentException IllegalStateException
            int pass(int) IllegalArgumentException IllegalStateException
            int drafted()
            int today()
            int reads(int) IndexOutOfBoundsException
            int rests(int) IndexOutOfBoundsException
            int show(int) IndexOutOfBoundsException IllegalStateException ArithmeticException
            int verdict(int) IndexOutOfBoundsException
            int failing(int) IndexOutOfBoundsException
            int example(int, int) IndexOutOfBoundsException NoSuchElementException
            int smaller(int) IndexOutOfBoundsException
            boolean isLocked(int) IndexOutOfBoundsException
            boolean isLockedByWays(int) IndexOutOfBoundsException
            boolean isMarked(int) IndexOutOfBoundsException
            int locked()
            int unlocked()
            int unlockedAt(int) IndexOutOfBoundsException
            """;

    public static void main(String[] args) throws Exception {
        Checks checks = new Checks();
        Set<String> face = new TreeSet<>();
        Set<String> publicNames = new HashSet<>();
        for (Field field : Gridprobe.class.getDeclaredFields()) {
            if (isOpen(field)) {
                face.add(field.getName() + " = " + field.getInt(null));
                checks.due(field + " is public static final", field.getModifiers(),
                        Modifier.PUBLIC | Modifier.STATIC | Modifier.FINAL);
            }
        }
        for (Method method : Gridprobe.class.getDeclaredMethods()) {
            if (isOpen(method)) {
                face.add(written(method));
                publicNames.add(method.getName());
                checks.due(method + " is public", method.getModifiers(), Modifier.PUBLIC);
            }
        }
        checks.dueText("the face", String.join("\n", face), String.join("\n", new TreeSet<>(FACE.lines().toList())));
        Constructor<?>[] constructors = Gridprobe.class.getDeclaredConstructors();
        checks.due("constructors", constructors.length, 1);
        checks.due("the constructor is public", constructors[0].getModifiers(), Modifier.PUBLIC);
        checks.due("parameters of the constructor", constructors[0].getParameterCount(), 0);
        checks.due("the class is public and final", Gridprobe.class.getModifiers(), Modifier.PUBLIC | Modifier.FINAL);
        for (Class<?> inside : Gridprobe.class.getDeclaredClasses()) {
            checks.due(inside + " is static", Modifier.isStatic(inside.getModifiers()), true);
            checks.due(inside + " is public", Modifier.isPublic(inside.getModifiers()), false);
        }
        for (Method method : Gridprobe.class.getDeclaredMethods()) {
            boolean takesName = !isOpen(method) && publicNames.contains(method.getName());
            checks.due(method + " bears the name of a public one", takesName, false);
        }
        checks.close();
    }

    private static boolean isOpen(Member member) {
        return !Modifier.isPrivate(member.getModifiers()) && !member.isSynthetic();
    }

    private static String written(Method method) {
        String parameters = Arrays.stream(method.getParameterTypes()).map(Class::getName)
                .collect(Collectors.joining(", "));
        String thrown = Arrays.stream(method.getExceptionTypes()).map(type -> " " + type.getSimpleName())
                .collect(Collectors.joining());
        return method.getReturnType().getName() + " " + method.getName() + "(" + parameters + ")" + thrown;
    }
}
