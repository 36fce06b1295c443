import java.io.IOException;
import java.nio.file.Files;
import java.nio.file.Path;
import java.util.regex.Matcher;
import java.util.regex.Pattern;

/** DOC.md, as it lies under $SHARED (.ci/run exports it) or beside the project. */
final class Document {
    static final int PROMISES = 50;
    private final String text;

    private Document(String text) {
        this.text = text;
    }

    /** null, where the tests are run without the document. */
    static Document find(String test) throws IOException {
        String shared = System.getenv("SHARED");
        Path path = Path.of(shared == null ? "../shared" : shared, "DOC.md");
        if (Files.exists(path)) return new Document(Files.readString(path));
        System.out.println(test + ": no " + path + ", so nothing is held to it");
        return null;
    }

    String text() {
        return text;
    }

    String face() {
        return between("```java\n", "```");
    }

    String terms() {
        return between("\n## Terms\n", "\n## Promise 1:").replace("```text", "").replace("```", "")
            .replaceAll("==== \\d\\. [A-Z ]+", "").replace("THE RINK\n", "").replaceAll("\\s+", " ").trim();
    }

    String signature(int p) {
        return part(p, 1);
    }

    /** What a promise says behind its signature. */
    String promise(int p) {
        return part(p, 2);
    }

    private String part(int p, int group) {
        Matcher m = Pattern.compile("(?s)`(.*?)`:(.*)").matcher(between("\n## Promise " + p + ":", "\n## "));
        return m.find() ? m.group(group).replaceAll("\\s+", " ").trim() : "";
    }

    private String between(String from, String to) {
        int begin = text.indexOf(from);
        int end = begin < 0 ? -1 : text.indexOf(to, begin + from.length());
        return begin < 0 || end < 0 ? "" : text.substring(begin + from.length(), end);
    }
}
