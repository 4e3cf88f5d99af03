import java.io.IOException;
import java.nio.file.Files;
import java.nio.file.Path;
import java.util.ArrayList;
import java.util.Arrays;
import java.util.List;
import java.util.regex.Matcher;
import java.util.regex.Pattern;

/** The public face as the document writes it: the members that stand there between the braces, one a line. */
final class Face {
    private static final Path DOCUMENT = Path.of("../shared/DOC.md");
    private static final Pattern BLOCK =
            Pattern.compile("```java\npublic final class Fieldgrammar \\{\n(.*?)}\n```", Pattern.DOTALL);
    private static final Pattern CALL = Pattern.compile("public \\w+ (\\w+)\\(([^)]*)\\)(?: throws ([^;]*))?;");

    /** A call: its name, the names of its arguments, and the names of what it throws. */
    record Call(String name, List<String> arguments, List<String> thrown) {
    }

    private Face() {
    }

    static List<String> members() throws IOException {
        Matcher block = BLOCK.matcher(Files.readString(DOCUMENT));
        return block.find() ? block.group(1).lines().map(String::strip).toList() : List.of();
    }

    static List<Call> calls() throws IOException {
        List<Call> calls = new ArrayList<>();
        for (String member : members()) {
            Matcher call = CALL.matcher(member);
            if (call.matches()) {
                calls.add(new Call(call.group(1), lastWords(call.group(2)), lastWords(call.group(3))));
            }
        }
        return calls;
    }

    /** Of "int needs, int bars" the names: needs and bars. */
    private static List<String> lastWords(String list) {
        return list == null || list.isEmpty() ? List.of()
                : Arrays.stream(list.split(", ")).map(part -> part.substring(part.indexOf(' ') + 1)).toList();
    }
}
