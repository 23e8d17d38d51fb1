import java.io.IOException;
import java.nio.file.Files;
import java.nio.file.Path;
import java.util.HashSet;
import java.util.Set;
import java.util.regex.Matcher;
import java.util.regex.Pattern;

/** The examples of README.md answer what they say, and every call of the class has one. */
public final class ReadmeTest {
    private static final Path README = Path.of("README.md");
    private static final Pattern BLOCK = Pattern.compile("(?s)```java\n(.*?)```");
    private static final Pattern LINE = Pattern.compile("bridge\\.(\\w+)(\\(.*\\)); *// (-?\\d+)(: .*)?");
    private static final String NEW = "FeetBridge bridge = new FeetBridge();";

    private static final Set<String> shown = new HashSet<>();

    public static void main(String[] args) throws IOException {
        Matcher block = BLOCK.matcher(Files.readString(README));
        while (block.find()) {
            example(block.group(1).split("\n"));
        }
        Due.part("README.md");
        for (String name : Run.names()) {
            Due.holds(name + " has an example", shown.contains(name));
        }
        Due.end();
    }

    private static void example(String[] lines) {
        Due.part("README.md, '" + lines[1] + "'");
        Due.holds("it begins with a new object", lines[0].equals(NEW));
        FeetBridge bridge = new FeetBridge();
        for (int i = 1; i < lines.length; i++) {
            Matcher line = LINE.matcher(lines[i]);
            boolean isCall = line.matches();
            Due.holds("'" + lines[i] + "' is a call with its answer", isCall);
            if (isCall) {
                shown.add(line.group(1));
                long want = Long.parseLong(line.group(3));
                Due.due(lines[i], Run.call(bridge, line.group(1) + line.group(2)), want);
            }
        }
    }
}
