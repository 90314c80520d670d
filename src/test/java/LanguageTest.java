import java.io.IOException;
import java.lang.reflect.Array;
import java.lang.reflect.Field;
import java.lang.reflect.Method;
import java.lang.reflect.Modifier;
import java.nio.file.Files;
import java.nio.file.Path;
import java.util.Arrays;
import java.util.Collections;
import java.util.IdentityHashMap;
import java.util.List;
import java.util.Set;
import java.util.regex.Matcher;
import java.util.regex.Pattern;
import java.util.stream.Collectors;

/** The rules of LANGUAGE.md that the source or the compiled class shows. */
public final class LanguageTest {
    private static final Check CHECK = new Check();
    private static final Path SOURCE = Path.of("src/main/java/DoublePacks.java");
    private static final String TEXTS_AND_COMMENTS = "\"[^\"\n]*\"|//[^\n]*|(?s:/\\*.*?\\*/)";
    private static final Set<String> LIBRARY = Set.of("Math.min", "Math.max", "Math.abs", "Long.numberOfLeadingZeros",
            "Long.numberOfTrailingZeros", "Arrays.fill");
    private static final Set<String> EXCEPTIONS = Set.of("IllegalStateException", "IllegalArgumentException",
            "IndexOutOfBoundsException", "ArithmeticException");

    public static void main(String[] args) throws IOException, ReflectiveOperationException {
        String code = Files.readString(SOURCE).replaceAll(TEXTS_AND_COMMENTS, "");
        words(code);
        library(code);
        whatIsMade(code);
        methodLengths(code);
        classes();
        room();
        CHECK.end();
    }

    private static void words(String code) {
        CHECK.says("rules 2, 3 and 6");
        for (String word : List.of("package", "try", "catch", "finally", "synchronized", "assert", "double", "float",
                "Object", "hashCode", "toString", "equals")) {
            CHECK.same(word, Pattern.compile("\\b" + word + "\\b").matcher(code).find() ? 1 : 0, 0);
        }
        CHECK.same("a lambda", code.contains("->") ? 1 : 0, 0);
        CHECK.same("a method reference", code.contains("::") ? 1 : 0, 0);
    }

    private static void library(String code) {
        CHECK.says("rule 4");
        for (String name : found(code, "import ([^;]+);")) {
            CHECK.same("the import " + name, name.equals("java.util.Arrays") ? 1 : 0, 1);
        }
        for (String name : found(code, "\\b((?:Math|Long|Integer|Arrays|System|String|List)\\.\\w+)")) {
            CHECK.same(name, LIBRARY.contains(name) ? 1 : 0, 1);
        }
    }

    private static Set<String> found(String code, String pattern) {
        return Pattern.compile(pattern).matcher(code).results().map(one -> one.group(1)).collect(Collectors.toSet());
    }

    private static void whatIsMade(String code) {
        CHECK.says("rules 6 and 12: rows are made with the object and used again");
        for (String line : code.split("\n")) {
            Matcher made = Pattern.compile("new (\\w+)").matcher(line);
            if (!made.find()) {
                continue;
            }
            boolean withTheObject = line.matches("        private final \\S+ \\w+ = new .*;")
                    || line.matches("        (row|draft|out|tape|decoder) = new \\w+\\(\\);")
                    || line.matches("            bytes = new int\\[Math\\.max\\(0, most\\)\\];");
            boolean thrown = line.contains("throw new") && EXCEPTIONS.contains(made.group(1));
            CHECK.same(line.strip(), withTheObject || thrown ? 1 : 0, 1);
        }
    }

    private static void methodLengths(String code) {
        CHECK.says("rule 11");
        String[] lines = code.split("\n");
        for (int start = 0; start < lines.length; start++) {
            Matcher head = Pattern.compile("^( {4}| {8})\\S.*\\(.*\\).* \\{$").matcher(lines[start]);
            if (head.find()) {
                String closing = head.group(1) + "}";
                int end = start;
                while (!lines[end].equals(closing)) {
                    end++;
                }
                CHECK.same(lines[start].strip() + " has up to 60 lines", end - start < 60 ? 1 : 0, 1);
            }
        }
    }

    private static void classes() {
        CHECK.says("rules 1, 5 and 11");
        Set<String> face = Arrays.stream(DoublePacks.class.getDeclaredMethods())
                .filter(method -> Modifier.isPublic(method.getModifiers())).map(Method::getName)
                .collect(Collectors.toSet());
        Class<?>[] inside = DoublePacks.class.getDeclaredClasses();
        CHECK.same("up to 12 classes", inside.length < 12 ? 1 : 0, 1);
        for (Class<?> one : inside) {
            fields(one);
            for (Method method : one.getDeclaredMethods()) {
                CHECK.same(method + " has a name of its own", face.contains(method.getName()) ? 1 : 0, 0);
                CHECK.same(method + " has up to 7 parameters", method.getParameterCount() <= 7 ? 1 : 0, 1);
            }
        }
        fields(DoublePacks.class);
    }

    private static void fields(Class<?> one) {
        int own = 0;
        for (Field field : one.getDeclaredFields()) {
            if (Modifier.isStatic(field.getModifiers())) {
                CHECK.same(field + " is final", Modifier.isFinal(field.getModifiers()) ? 1 : 0, 1);
            } else {
                own++;
            }
        }
        CHECK.same(one + " has up to 20 fields", own <= 20 ? 1 : 0, 1);
    }

    private static void room() throws ReflectiveOperationException {
        CHECK.says("one room for all calls");
        Set<Object> seen = Collections.newSetFromMap(new IdentityHashMap<>());
        long held = held(Rows.busy(), seen);
        CHECK.same(held + " fields and elements an object, so that 500 fit", 500 * held <= 7_300_000 ? 1 : 0, 1);
        CHECK.same(seen.size() + " objects an object, so that 500 fit", 500 * seen.size() <= 600_000 ? 1 : 0, 1);
    }

    private static long held(Object one, Set<Object> seen) throws ReflectiveOperationException {
        if (!seen.add(one)) {
            return 0;
        }
        if (one.getClass().isArray()) {
            return Array.getLength(one);
        }
        long all = 0;
        for (Field field : one.getClass().getDeclaredFields()) {
            if (Modifier.isStatic(field.getModifiers())) {
                continue;
            }
            all++;
            if (!field.getType().isPrimitive()) {
                field.setAccessible(true);
                all += held(field.get(one), seen);
            }
        }
        return all;
    }
}
