import java.io.IOException;
import java.lang.reflect.Constructor;
import java.lang.reflect.Field;
import java.lang.reflect.Method;
import java.lang.reflect.Modifier;
import java.nio.file.Files;
import java.nio.file.Path;
import java.util.HashSet;
import java.util.Set;
import java.util.TreeSet;
import java.util.regex.Matcher;
import java.util.regex.Pattern;

/** The class has just the document's face, and keeps to the rules of LANGUAGE.md that a look can tell. */
public final class FaceTest {
    private static final Path DOCUMENT = Path.of("../shared/DOC.md");
    private static final Path PROGRAM = Path.of("src/main/java/FeetBridge.java");

    public static void main(String[] args) throws IOException {
        face();
        members(FeetBridge.class);
        for (Class<?> inside : FeetBridge.class.getDeclaredClasses()) {
            int how = inside.getModifiers();
            Due.holds(inside + " is static and not public", Modifier.isStatic(how) && !Modifier.isPublic(how));
            members(inside);
        }
        source(Files.readString(PROGRAM));
        Due.end();
    }

    private static void face() throws IOException {
        Due.part("the face");
        String text = Files.readString(DOCUMENT);
        Set<String> want = new TreeSet<>();
        Matcher m = Pattern.compile("(?m)^ +public (int|long) (\\w+)\\((.*)\\);$").matcher(text);
        while (m.find()) {
            int parameters = m.group(3).isEmpty() ? 0 : m.group(3).split(",").length;
            want.add(m.group(1) + " " + m.group(2) + " of " + parameters);
        }
        Set<String> have = new TreeSet<>();
        for (Method each : FeetBridge.class.getDeclaredMethods()) {
            if (!Modifier.isPrivate(each.getModifiers())) {
                have.add(each.getReturnType() + " " + each.getName() + " of " + each.getParameterCount());
                Due.holds(each + " is public", each.getModifiers() == Modifier.PUBLIC);
                for (Class<?> type : each.getParameterTypes()) {
                    Due.holds(each + " takes ints", type == int.class);
                }
            }
        }
        Due.due("methods in the document", want.size(), 47);
        Due.holds("methods " + have + " are the document's", have.equals(want));
        Constructor<?>[] makers = FeetBridge.class.getDeclaredConstructors();
        Due.holds("one public constructor", makers.length == 1 && makers[0].getModifiers() == Modifier.PUBLIC
            && makers[0].getParameterCount() == 0);
        Due.holds("public and final", FeetBridge.class.getModifiers() == (Modifier.PUBLIC | Modifier.FINAL));
        for (Field each : FeetBridge.class.getDeclaredFields()) {
            Due.holds(each + " is private", Modifier.isPrivate(each.getModifiers()));
        }
    }

    private static void members(Class<?> type) {
        Due.part("the members of " + type.getSimpleName());
        Set<String> face = new HashSet<>();
        for (Method each : FeetBridge.class.getDeclaredMethods()) {
            if (Modifier.isPublic(each.getModifiers())) {
                face.add(each.getName());
            }
        }
        for (Method each : type.getDeclaredMethods()) {
            Due.holds(each + " bears a name of its own",
                Modifier.isPublic(each.getModifiers()) || !face.contains(each.getName()));
            Due.holds(each + " takes at most seven", each.getParameterCount() <= 7);
        }
        int fields = 0;
        for (Field each : type.getDeclaredFields()) {
            int how = each.getModifiers();
            Due.holds(each + " is no static state", !Modifier.isStatic(how) || Modifier.isFinal(how));
            fields += Modifier.isStatic(how) ? 0 : 1;
        }
        Due.holds("at most twenty fields", fields <= 20);
    }

    private static void source(String text) {
        Due.part("the source");
        String bare = text.replaceAll("(?s)/\\*.*?\\*/", "").replaceAll("//.*", "").replaceAll("\"[^\"]*\"", "\"\"");
        String[] banned = {"throw", "throws", "try", "catch", "finally", "synchronized", "assert", "import", "package",
            "protected", "volatile", "native", "Object", "Thread", "Random", "Exception", "equals", "hashCode",
            "toString", "double", "float", "enum", "record"};
        for (String word : banned) {
            Due.holds("no '" + word + "'", !Pattern.compile("\\b" + word + "\\b").matcher(bare).find());
        }
        for (String part : new String[] {"->", "::", "Exact(", "static {", "@"}) {
            Due.holds("no '" + part + "'", !bare.contains(part));
        }
        Due.holds("signs 1 to 127", text.chars().allMatch(c -> c > 0 && c < 128));
        makesInFieldsAlone(bare);
        methodLengths(text);
    }

    /** Rule 12 counts what a run makes: so that no call makes anything, all rows are made with the object. */
    private static void makesInFieldsAlone(String bare) {
        for (String line : bare.split("\n")) {
            if (line.matches(".*\\bnew\\b.*")) {
                Due.holds("'" + line.trim() + "' is a field", line.matches(" +(private )?final [\\w\\[\\]]+ \\w+ = new .*;"));
            }
        }
    }

    private static void methodLengths(String text) {
        String[] lines = text.split("\n");
        for (int i = 0; i < lines.length; i++) {
            if (lines[i].matches(" {4,8}[\\w\\[\\] ]+\\([^;=]*\\) \\{")) {
                String close = lines[i].replaceAll("\\S.*", "") + "}";
                int end = i;
                while (end < lines.length - 1 && !lines[end].equals(close)) {
                    end++;
                }
                Due.holds("line " + (i + 1) + " begins a short method", end - i < 60);
            }
        }
    }
}
