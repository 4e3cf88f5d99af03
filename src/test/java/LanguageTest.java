import java.io.IOException;
import java.lang.reflect.Constructor;
import java.lang.reflect.Field;
import java.lang.reflect.Method;
import java.lang.reflect.Modifier;
import java.nio.file.Files;
import java.nio.file.Path;
import java.util.ArrayList;
import java.util.Arrays;
import java.util.List;
import java.util.Set;
import java.util.TreeSet;
import java.util.regex.Matcher;
import java.util.regex.Pattern;

/**
 * The rules of LANGUAGE.md, as far as they can be read from the text of the class or from what it is compiled to; of
 * what a rule allows, only what the class uses. Run from the project's folder. FaceTest looks at rule 1.
 */
public final class LanguageTest {
    private static final Path SOURCE = Path.of("src/main/java/Fieldgrammar.java");
    private static final Pattern METHOD =
            Pattern.compile("(?m)^( {4}| {8})(?:\\w+ )*[\\w<>\\[\\]]+ (\\w+)\\([^;{]*\\{\n(?s:(.*?))^\\1\\}$");
    private static final Check check = new Check();
    private static final List<Class<?>> classes = new ArrayList<>();
    private static String code;

    public static void main(String[] args) throws IOException {
        code = Files.readString(SOURCE).replaceAll("(?s)/\\*.*?\\*/", "").replaceAll("//[^\n]*", "");
        classes.add(Fieldgrammar.class);
        classes.addAll(Arrays.asList(Fieldgrammar.class.getDeclaredClasses()));
        classesInside();
        types();
        library();
        staticFields();
        exceptions();
        throwsByItself();
        recursion();
        loops();
        texts();
        sizes();
        objects();
        outside();
        check.close();
    }

    private static void never(String rule, String... patterns) {
        for (String pattern : patterns) {
            check.due(rule + ": found " + pattern, found(pattern, 0), Set.of());
        }
    }

    private static Set<String> found(String pattern, int group) {
        Set<String> found = new TreeSet<>();
        Matcher matcher = Pattern.compile(pattern).matcher(code);
        while (matcher.find()) {
            found.add(matcher.group(group));
        }
        return found;
    }

    private static void allowed(String rule, Set<String> found, String... those) {
        Set<String> others = new TreeSet<>(found);
        others.removeAll(Arrays.asList(those));
        check.due(rule, others, Set.of());
    }

    private static void classesInside() {
        never("rule 2", "->", "::", "@", "\\bextends\\b", "\\bimplements\\b");
        for (Class<?> inside : classes) {
            check.due("rule 2: classes in " + inside, inside != Fieldgrammar.class
                    && inside.getDeclaredClasses().length > 0, false);
        }
    }

    private static void types() {
        Set<String> types = new TreeSet<>();
        for (Class<?> one : classes) {
            for (Field field : one.getDeclaredFields()) {
                types.add(field.getType().getName());
            }
            for (Method method : one.getDeclaredMethods()) {
                types.add(method.getReturnType().getName());
                Arrays.stream(method.getParameterTypes()).forEach(type -> types.add(type.getName()));
            }
        }
        types.removeIf(type -> type.startsWith("Fieldgrammar$"));
        allowed("rule 3: types", types, "int", "long", "boolean", "void", "[I", "[J", "java.util.ArrayList");
        never("rule 3", "\\bfloat\\b", "\\bdouble\\b", "\\bObject\\b", "\\bvar\\b");
    }

    private static void library() {
        check.due("rule 4: imports", found("import [^;]*;", 0), Set.of("import java.util.ArrayList;"));
        allowed("rule 4: static calls", found("\\b(?:Integer|Long|Math|Arrays|System|List)\\.\\w+", 0),
                "Integer.bitCount", "Long.bitCount");
        Set<String> called = found("\\.(\\w+)\\(", 1);
        for (Class<?> one : classes) {
            Arrays.stream(one.getDeclaredMethods()).forEach(method -> called.remove(method.getName()));
        }
        allowed("rule 4: calls", called, "add", "get", "set", "remove", "size", "bitCount");
    }

    private static void staticFields() {
        for (Class<?> one : classes) {
            for (Field field : one.getDeclaredFields()) {
                if (Modifier.isStatic(field.getModifiers())) {
                    check.due("rule 5: " + field, Modifier.isFinal(field.getModifiers())
                            && field.getType().isPrimitive(), true);
                }
            }
        }
        never("rule 5", "\\bstatic\\s*\\{");
    }

    private static void exceptions() {
        allowed("rule 6: thrown", found("\\bthrow\\b[^;]*;", 0), "throw new IndexOutOfBoundsException();",
                "throw new IllegalArgumentException();", "throw new IllegalStateException();");
        never("rule 6", "\\btry\\b", "\\bcatch\\b", "\\bfinally\\b", "\\bsynchronized\\b", "\\bassert\\b",
                "\\binstanceof\\b", "\\bequals\\b", "\\bhashCode\\b", "\\btoString\\b");
    }

    /** Nothing is divided, and nothing but numbers is cast; RefusedTest and ModelTest look for the rest. */
    private static void throwsByItself() {
        never("rule 7", "[/%]");
        allowed("rule 7: casts", found("\\((\\w+)\\) [\\w(]", 1), "int", "long");
    }

    /** A method that calls another one of its name calls it of another object. */
    private static void recursion() {
        Matcher method = METHOD.matcher(code);
        int methods = 0;
        while (method.find()) {
            methods++;
            Pattern itself = Pattern.compile("(?<![.\\w])" + method.group(2) + "\\(");
            check.due("rule 8: " + method.group(2) + " calls itself", itself.matcher(method.group(3)).find(), false);
            check.due("rule 11: lines of " + method.group(2), method.group().lines().count() <= 60, true);
        }
        check.due("rule 8: methods found", methods > 100, true);
    }

    private static void loops() {
        never("rule 9", "\\bwhile\\b", "\\bdo\\b",
                "\\bfor\\b(?! \\(int (\\w+) = [^;]*; \\1 < [^;]*; \\1\\+\\+\\) \\{)");
    }

    private static void texts() {
        never("rule 10", "\"", "\\bString\\b");
        never("rule 4", "[^\\x00-\\x7f]");
    }

    private static void sizes() {
        check.due("rule 11: classes", classes.size() <= 12, true);
        for (Class<?> one : classes) {
            long fields = Arrays.stream(one.getDeclaredFields())
                    .filter(field -> !Modifier.isStatic(field.getModifiers())).count();
            check.due("rule 11: fields of " + one, fields <= 20, true);
            for (Method method : one.getDeclaredMethods()) {
                check.due("rule 11: " + method, method.getParameterCount() <= 7, true);
            }
            for (Constructor<?> made : one.getDeclaredConstructors()) {
                check.due("rule 11: " + made, made.getParameterCount() <= 7, true);
            }
        }
    }

    /** Objects are made for what a call adds, and never in a loop. */
    private static void objects() {
        never("rule 12", "(?m)^( +)for \\(.*\\{\n(?:\\1 .*\n|\n)*\\1 +.*\\bnew\\b");
    }

    private static void outside() {
        never("rule 13", "\\bThread\\b", "\\bSystem\\b", "\\bRandom\\b", "\\bpackage\\b", "\\bprotected\\b");
    }
}
