import java.io.IOException;
import java.nio.file.Files;
import java.nio.file.Path;
import java.util.regex.Matcher;
import java.util.regex.Pattern;

/** The examples of README.md: each call there has to give the answer that stands behind it. */
public final class ReadmeTest {
    private static final Pattern CALL = Pattern.compile("office\\.(\\w+)\\(([-\\d, ]*)\\);\\s+// (-?\\d+): .*");
    private static final Pattern TYPED = Pattern.compile("\"(.*)\"\\.chars\\(\\)\\.forEach\\(office::type\\);");
    private static final String BEGINNING = "BlockClerks office = new BlockClerks();";
    private static final int CALLS_AT_LEAST = 15;

    public static void main(String[] args) throws IOException {
        BlockClerks office = new BlockClerks();
        boolean inExample = false;
        int calls = 0;
        for (String line : Files.readAllLines(Path.of("README.md"))) {
            if (line.startsWith("```")) {
                inExample = line.equals("```java");
            } else if (inExample && !line.equals(BEGINNING)) {
                calls++;
                Rows.due("README.md: " + line, holds(office, line));
            }
        }
        Rows.due("README.md has examples, but only with " + calls + " calls", calls >= CALLS_AT_LEAST);
        Rows.end();
    }

    private static boolean holds(BlockClerks office, String line) {
        Matcher typed = TYPED.matcher(line);
        if (typed.matches()) {
            return Rows.answer(office, "text " + typed.group(1)) > 0;
        }
        Matcher call = CALL.matcher(line);
        return call.matches() && Rows.answer(office, call.group(1) + " " + call.group(2).replace(",", " "))
                == Integer.parseInt(call.group(3));
    }
}
