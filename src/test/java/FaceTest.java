import java.lang.reflect.Constructor;
import java.lang.reflect.Field;
import java.lang.reflect.Member;
import java.lang.reflect.Method;
import java.lang.reflect.Modifier;
import java.util.Arrays;
import java.util.HashSet;
import java.util.Set;
import java.util.TreeSet;
import java.util.stream.Collectors;

/** The face that the document shows, and no more of it: promises 1 to 23 by their signatures. */
public final class FaceTest {
    private static final Check CHECK = new Check();
    private static final String[] FACE = {
        "int add(long) IllegalStateException",
        "int decimal(int, int) IllegalArgumentException, IllegalStateException",
        "int count() ",
        "int clear() ",
        "long value(int) IndexOutOfBoundsException",
        "long turned(int) IndexOutOfBoundsException",
        "int rank(int) IndexOutOfBoundsException",
        "long foretold(int, int, int) IndexOutOfBoundsException, IllegalArgumentException",
        "int power(int) IndexOutOfBoundsException",
        "long scaled(int, int) IndexOutOfBoundsException, IllegalArgumentException, ArithmeticException",
        "int pack(int) IllegalArgumentException",
        "int blocks() ",
        "int way(int) IndexOutOfBoundsException",
        "int bits(int, int) IndexOutOfBoundsException, IllegalArgumentException",
        "int size() ",
        "int out(int) IndexOutOfBoundsException",
        "int feed(long, int) IllegalArgumentException, IllegalStateException",
        "int cut(int) IllegalArgumentException",
        "int turn() ",
        "int change(int, int) IndexOutOfBoundsException, IllegalArgumentException",
        "int open() ",
        "int place() ",
    };

    public static void main(String[] args) {
        theClass();
        methods();
        otherMembers();
        CHECK.end();
    }

    private static void theClass() {
        int modifiers = DoublePacks.class.getModifiers();
        CHECK.same("the class is public and final", modifiers, Modifier.PUBLIC | Modifier.FINAL);
        for (Class<?> inside : DoublePacks.class.getDeclaredClasses()) {
            int own = inside.getModifiers();
            boolean fits = Modifier.isStatic(own) && !Modifier.isPublic(own) && !Modifier.isProtected(own);
            CHECK.same(inside.getName() + " is static, and private or package-visible", fits ? 1 : 0, 1);
        }
    }

    private static void methods() {
        Set<String> got = new TreeSet<>();
        Set<String> names = new HashSet<>();
        for (Method method : DoublePacks.class.getDeclaredMethods()) {
            if (!Modifier.isPrivate(method.getModifiers())) {
                got.add(told(method));
                names.add(method.getName());
            }
        }
        Set<String> due = new TreeSet<>(Arrays.asList(FACE));
        CHECK.same("the face " + got + " is " + due, got.equals(due) ? 1 : 0, 1);
        for (Method method : DoublePacks.class.getDeclaredMethods()) {
            boolean clash = Modifier.isPrivate(method.getModifiers()) && names.contains(method.getName());
            CHECK.same("the private name " + method.getName() + " is its own", clash ? 1 : 0, 0);
        }
    }

    private static String told(Method method) {
        return method.getReturnType() + " " + method.getName() + "(" + names(method.getParameterTypes()) + ") "
                + names(method.getExceptionTypes());
    }

    private static String names(Class<?>[] types) {
        return Arrays.stream(types).map(Class::getSimpleName).collect(Collectors.joining(", "));
    }

    private static void otherMembers() {
        for (Constructor<?> made : DoublePacks.class.getDeclaredConstructors()) {
            CHECK.same("the constructor is public", made.getModifiers(), Modifier.PUBLIC);
            CHECK.same("and takes nothing", made.getParameterCount(), 0);
        }
        for (Field field : DoublePacks.class.getDeclaredFields()) {
            int due = field.getName().equals("NONE") ? Modifier.PUBLIC : Modifier.PRIVATE;
            CHECK.same(field.getName(), visible(field), due);
        }
    }

    private static int visible(Member member) {
        return member.getModifiers() & (Modifier.PUBLIC | Modifier.PROTECTED | Modifier.PRIVATE);
    }
}
