import java.io.IOException;
import java.nio.file.DirectoryStream;
import java.nio.file.Files;
import java.nio.file.Path;
import java.util.Locale;
import java.util.regex.Matcher;
import java.util.regex.Pattern;

/** The example of README.md answers what its comments say, and the page names every call and every test. */
public final class ReadmeTest {
    private static final Pattern LINE = Pattern.compile("stamps\\.(\\w+)\\((-?\\d+)(?:, (-?\\d+))?\\); +// (-?\\d+): .+");
    private static final Pattern EXAMPLE = Pattern.compile("(?s)```java\n(.*?)```");

    private static int wrong = 0;

    private static void due(String what, Object want, Object got) {
        if (!want.equals(got)) {
            wrong++;
            System.out.println("README.md: " + what + ": found " + got + ", due is " + want);
        }
    }

    /** Answers how many calls the example has. */
    private static int lookAtExample(String example) {
        SpanStamps stamps = new SpanStamps();
        String[] lines = example.split("\n");
        due("the first line", "SpanStamps stamps = new SpanStamps();", lines[0]);
        for (int i = 1; i < lines.length; i++) {
            Matcher line = LINE.matcher(lines[i]);
            due("a call with its answer, " + lines[i], true, line.matches());
            if (line.matches()) {
                Call call = Call.valueOf(line.group(1).toUpperCase(Locale.ROOT));
                due("numbers of " + lines[i], call.numbers, line.group(3) == null ? 1 : 2);
                int second = line.group(3) == null ? 0 : Integer.parseInt(line.group(3));
                int answer = call.on(stamps, Integer.parseInt(line.group(2)), second);
                due(lines[i], answer, Integer.parseInt(line.group(4)));
            }
        }
        return lines.length - 1;
    }

    private static void lookAtNames(String page) throws IOException {
        for (Call call : Call.values()) {
            String row = "| `" + call.name().toLowerCase(Locale.ROOT) + "(";
            due("a row for " + call, true, page.contains(row));
        }
        try (DirectoryStream<Path> tests = Files.newDirectoryStream(Path.of("src/test/java"))) {
            for (Path test : tests) {
                String name = test.getFileName().toString().replace(".java", "");
                due("the test " + name + " is named", true, page.contains("`" + name + "`"));
            }
        }
    }

    public static void main(String[] args) throws IOException {
        String page = Files.readString(Path.of("README.md"));
        Matcher example = EXAMPLE.matcher(page);
        int calls = example.find() ? lookAtExample(example.group(1)) : 0;
        due("the example has calls", true, calls > 0);
        lookAtNames(page);
        System.out.println(calls + " calls of the example, " + wrong + " things not as due");
        if (wrong != 0) {
            System.exit(1);
        }
    }
}
