import java.io.IOException;
import java.nio.file.Files;
import java.nio.file.Path;
import java.util.Set;
import java.util.TreeSet;
import java.util.regex.Matcher;
import java.util.regex.Pattern;

/** The rules of LANGUAGE.md that can be read from the text of the class; run from the project's folder. */
public final class LanguageTest {
    private static final Path SOURCE = Path.of("src/main/java/Fieldgrammar.java");
    private static final String[] NEVER = {"\\bpackage\\b", "->", "::", "\\btry\\b", "\\bcatch\\b", "\\bfinally\\b",
        "\\bsynchronized\\b", "\\bassert\\b", "\\bstatic\\s*\\{", "Exact\\b", "\\bprotected\\b", "\"", "\\bequals\\b",
        "\\bhashCode\\b", "\\btoString\\b", "\\bSystem\\b", "\\bMath\\b", "\\bThread\\b", "\\bvar\\b", "\\bObject\\b"};

    public static void main(String[] args) throws IOException {
        Check check = new Check();
        String code = Files.readString(SOURCE).replaceAll("(?s)/\\*.*?\\*/", "").replaceAll("//[^\n]*", "");
        for (String never : NEVER) {
            check.due("found " + never, found(code, never), Set.of());
        }
        check.due("imports", found(code, "import [^;]*;"), Set.of("import java.util.ArrayList;"));
        check.due("static calls", found(code, "\\b(Integer|Long|Arrays)\\.\\w+"), Set.of("Integer.bitCount", "Long.bitCount"));
        check.due("exceptions", found(code, "throw new \\w+\\(\\)|throw (?!new)\\w+"), Set.of(
            "throw new IndexOutOfBoundsException()",
            "throw new IllegalArgumentException()",
            "throw new IllegalStateException()"));
        check.due("static fields that are not final", found(code, "static (?!final|int|long|boolean|void)[^;{]*;"), Set.of());
        check.due("not a class over twelve", found(code, "\\bclass \\w+").size() <= 12, true);
        check.due("signs over 127", found(code, "[^\\x00-\\x7f]"), Set.of());
        check.close();
    }

    private static Set<String> found(String code, String pattern) {
        Set<String> found = new TreeSet<>();
        Matcher matcher = Pattern.compile(pattern).matcher(code);
        while (matcher.find()) {
            found.add(matcher.group());
        }
        return found;
    }
}
