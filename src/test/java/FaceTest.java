import java.io.IOException;
import java.lang.reflect.Constructor;
import java.lang.reflect.Field;
import java.lang.reflect.Method;
import java.lang.reflect.Modifier;
import java.nio.file.Files;
import java.nio.file.Path;
import java.util.Arrays;
import java.util.Set;
import java.util.TreeSet;

/**
 * The public face of the document, with what each call may throw, and no other member that can be seen. Run from the
 * project's folder.
 */
public final class FaceTest {
    private static final String BOUNDS = " IndexOutOfBoundsException";
    private static final String ARGUMENT = " IllegalArgumentException";
    private static final String STATE = " IllegalStateException";

    private static final Set<String> FACE = Set.of(
        "int NONE",
        "int ANY",
        "int EDGE",
        "Fieldgrammar()",
        "int sound(int)" + ARGUMENT + STATE,
        "int kind(int, int)" + ARGUMENT + STATE,
        "int put(int)" + BOUNDS + STATE,
        "int wipe()",
        "int lexeme()" + STATE,
        "void reform(int)" + BOUNDS + STATE,
        "void ending(int)" + BOUNDS + STATE,
        "int rule(int, int, int, int)" + BOUNDS + ARGUMENT + STATE,
        "boolean turn(int, boolean)" + BOUNDS,
        "int raise(int)" + BOUNDS,
        "int hear(int, int, int)" + BOUNDS + STATE,
        "boolean correct(int)" + BOUNDS,
        "int forget(int)" + BOUNDS,
        "boolean except(int, int, boolean)" + BOUNDS,
        "int merge(int, int)" + BOUNDS + ARGUMENT,
        "int split(int, int)" + BOUNDS + ARGUMENT + STATE,
        "int undo()" + STATE,
        "int length(int, int)" + BOUNDS,
        "int at(int, int, int)" + BOUNDS,
        "int step(int, int, int)" + BOUNDS,
        "int ofWord(int, int)" + BOUNDS + ARGUMENT,
        "int misfit(int)" + BOUNDS,
        "int claims(int, boolean)" + BOUNDS,
        "int fitting()",
        "int smallest()",
        "int question()",
        "int pairs(int, int)" + BOUNDS + ARGUMENT,
        "int holes(int)" + BOUNDS,
        "int shared(int, int)" + BOUNDS);

    private static final Path SOURCE = Path.of("src/main/java/Fieldgrammar.java");

    public static void main(String[] args) throws IOException {
        Check check = new Check();
        check.due("the face", seen(), new TreeSet<>(FACE));
        wordForWord(check);
        check.due("modifiers", Modifier.toString(Fieldgrammar.class.getModifiers()), "public final");
        for (String name : new String[] {"NONE", "ANY", "EDGE"}) {
            check.due("modifiers of " + name, modifiersOf(name), "public static final");
        }
        for (Method method : Fieldgrammar.class.getDeclaredMethods()) {
            if (Modifier.isPrivate(method.getModifiers())) {
                String name = method.getName();
                check.due("private method of a public one's name " + name, isPublic(name), false);
            }
        }
        for (Class<?> inside : Fieldgrammar.class.getDeclaredClasses()) {
            int modifiers = inside.getModifiers();
            boolean isStatic = Modifier.isStatic(modifiers);
            check.due(inside + " is static and not public", isStatic && !Modifier.isPublic(modifiers), true);
        }
        check.close();
    }

    /** Each member as the document's face writes it, but that a body stands behind a call. */
    private static void wordForWord(Check check) throws IOException {
        String source = Files.readString(SOURCE).replaceAll("\\s+", " ");
        check.due("members of the document's face", Face.members().size(), 32);
        for (String member : Face.members()) {
            String written = member.contains("(") ? member.replace(";", " {") : member;
            check.due("the class has: " + written, source.contains(written), true);
        }
    }

    /** The members of the class that are not private. */
    private static Set<String> seen() {
        Set<String> seen = new TreeSet<>();
        for (Field field : Fieldgrammar.class.getDeclaredFields()) {
            if (!Modifier.isPrivate(field.getModifiers())) {
                seen.add(field.getType().getSimpleName() + " " + field.getName());
            }
        }
        for (Constructor<?> made : Fieldgrammar.class.getDeclaredConstructors()) {
            seen.add("Fieldgrammar" + names(made.getParameterTypes()) + thrown(made.getExceptionTypes()));
        }
        for (Method method : Fieldgrammar.class.getDeclaredMethods()) {
            if (!Modifier.isPrivate(method.getModifiers())) {
                seen.add(method.getReturnType().getSimpleName() + " " + method.getName()
                        + names(method.getParameterTypes()) + thrown(method.getExceptionTypes()));
            }
        }
        return seen;
    }

    private static String names(Class<?>[] types) {
        String names = Arrays.stream(types).map(Class::getSimpleName).toList().toString();
        return "(" + names.substring(1, names.length() - 1) + ")";
    }

    private static String thrown(Class<?>[] types) {
        StringBuilder names = new StringBuilder();
        for (Class<?> type : types) {
            names.append(' ').append(type.getSimpleName());
        }
        return names.toString();
    }

    private static String modifiersOf(String field) {
        try {
            return Modifier.toString(Fieldgrammar.class.getDeclaredField(field).getModifiers());
        } catch (NoSuchFieldException missing) {
            return "none";
        }
    }

    private static boolean isPublic(String name) {
        return Arrays.stream(Fieldgrammar.class.getMethods()).anyMatch(method -> method.getName().equals(name));
    }
}
