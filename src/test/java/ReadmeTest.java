import java.io.IOException;
import java.lang.reflect.Method;
import java.nio.file.DirectoryStream;
import java.nio.file.Files;
import java.nio.file.Path;
import java.util.regex.Matcher;
import java.util.regex.Pattern;

/** README.md tells the truth: its example and texts are run, and it has every promise's words and every test's name. */
public final class ReadmeTest {
    private static final Check check = new Check();

    public static void main(String[] args) throws IOException, ReflectiveOperationException {
        String readme = Files.readString(Path.of("README.md"));
        example(readme);
        texts(readme);
        promises(readme);
        tests(readme);
        check.end("ReadmeTest");
    }

    private static void example(String readme) throws ReflectiveOperationException {
        OverTheBoards x = new OverTheBoards();
        Matcher m = Pattern.compile("(?m)^x\\.(\\w+)\\((.*)\\); *// (-?\\d+)").matcher(readme);
        int calls = 0;
        while (m.find()) {
            check.due("x." + m.group(1) + "(" + m.group(2) + ")", answer(x, m.group(1), m.group(2)), Long.parseLong(m.group(3)));
            calls++;
        }
        due("the example has calls that tell their answers", calls > 20);
        long told = readme.lines().filter(line -> line.startsWith("x.")).count();
        check.due("calls of the example without an answer", told - calls, 0);
    }

    private static long answer(OverTheBoards x, String name, String told) throws ReflectiveOperationException {
        String[] numbers = told.isEmpty() ? new String[0] : told.split(", *");
        Class<?>[] types = new Class<?>[numbers.length];
        Object[] values = new Object[numbers.length];
        for (int i = 0; i < numbers.length; i++) {
            types[i] = int.class;
            values[i] = Integer.parseInt(numbers[i]);
        }
        Method call = OverTheBoards.class.getMethod(name, types);
        return ((Number) call.invoke(x, values)).longValue();
    }

    private static void texts(String readme) {
        Matcher m = Pattern.compile("(?m)^\\| `([^`]*)` \\| (-?\\d+) \\|$").matcher(readme);
        int texts = 0;
        for (; m.find(); texts++) {
            check.due("rink() of " + m.group(1), Check.rink(new OverTheBoards(), m.group(1)), Long.parseLong(m.group(2)));
        }
        due("there are texts of RINKS", texts > 4);
    }

    private static void promises(String readme) throws IOException {
        Document document = Document.find("ReadmeTest");
        for (int p = 1; document != null && p <= Document.PROMISES; p++) {
            due("promise " + p + " has a text", !document.promise(p).isEmpty());
            String row = "\n| `" + document.signature(p) + "` | " + document.promise(p) + " |\n";
            due("README.md has promise " + p + " as the document has it", readme.contains(row));
        }
    }

    private static void tests(String readme) throws IOException {
        try (DirectoryStream<Path> files = Files.newDirectoryStream(Path.of("src/test/java"), "*Test.java")) {
            for (Path file : files) {
                String name = file.getFileName().toString().replace(".java", "");
                due("README.md says what " + name + " holds", readme.contains("\n| " + name + " | "));
            }
        }
    }

    private static void due(String what, boolean holds) {
        check.due(what, holds ? 1 : 0, 1);
    }
}
