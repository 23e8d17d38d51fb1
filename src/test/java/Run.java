import java.lang.reflect.Method;
import java.lang.reflect.Modifier;
import java.util.ArrayList;
import java.util.HashMap;
import java.util.List;
import java.util.Map;
import java.util.Set;

/**
 * An object under test together with all calls that it has had, written as in the document: "plank(3, 99)".
 * Twins that have had the same calls tell whether a call has changed something, as deep as Dump can look.
 */
final class Run {
    private static final int LOW = -1000001;
    private static final int FINDINGS = 7;
    private static final Map<String, Method> FACE = face();

    private final FeetBridge x = new FeetBridge();
    private final List<String> had = new ArrayList<>();

    private static Map<String, Method> face() {
        Map<String, Method> face = new HashMap<>();
        for (Method each : FeetBridge.class.getDeclaredMethods()) {
            if (Modifier.isPublic(each.getModifiers())) {
                face.put(each.getName(), each);
            }
        }
        return face;
    }

    static Set<String> names() {
        return FACE.keySet();
    }

    static Run with(String... calls) {
        return new Run().does(calls);
    }

    static long call(FeetBridge x, String call) {
        int open = call.indexOf('(');
        String inside = call.substring(open + 1, call.length() - 1);
        String[] parts = inside.isEmpty() ? new String[0] : inside.split(", *");
        Object[] given = new Object[parts.length];
        for (int i = 0; i < parts.length; i++) {
            given[i] = Integer.decode(parts[i]);
        }
        try {
            return ((Number) FACE.get(call.substring(0, open)).invoke(x, given)).longValue();
        } catch (ReflectiveOperationException e) {
            throw new IllegalStateException(call, e);
        }
    }

    private long act(String call) {
        had.add(call);
        return call(x, call);
    }

    private FeetBridge twin() {
        FeetBridge twin = new FeetBridge();
        for (String each : had) {
            call(twin, each);
        }
        return twin;
    }

    /** Calls whose answers are of no interest here, but that are not refused. */
    Run does(String... calls) {
        for (String each : calls) {
            long got = act(each);
            if (got <= LOW && got > LOW - FINDINGS) {
                Due.due(each + " is not refused", got, 0);
            }
        }
        return this;
    }

    Run due(String call, long want) {
        Due.due(call, act(call), want);
        return this;
    }

    /** A question: it answers, and nothing is changed. */
    Run asks(String call, long want) {
        FeetBridge without = twin();
        due(call, want);
        FeetBridge asked = twin();
        for (int which = -1; which < FINDINGS; which++) {
            Due.due("status(" + which + ") behind " + call, asked.status(which), without.status(which));
        }
        sameState(call, asked, without);
        return this;
    }

    /** A call that is refused: the finding is answered and counted once, and nothing else is changed. */
    Run refuses(String call, int finding) {
        FeetBridge without = twin();
        due(call, finding);
        FeetBridge refused = twin();
        for (int which = -1; which < FINDINGS; which++) {
            int more = which == -1 || which == LOW - finding ? 1 : 0;
            Due.due("status(" + which + ") behind " + call, refused.status(which), without.status(which) + more);
        }
        sameState(call, refused, without);
        return this;
    }

    private static void sameState(String call, FeetBridge a, FeetBridge b) {
        List<String> one = Dump.of(a);
        List<String> other = Dump.of(b);
        for (int i = 0; i < Math.max(one.size(), other.size()); i++) {
            String left = i < one.size() ? one.get(i) : "nothing";
            String right = i < other.size() ? other.get(i) : "nothing";
            if (!left.equals(right)) {
                Due.holds("behind " + call + ": " + left + ", without it " + right, false);
                return;
            }
        }
        Due.holds("nothing is changed by " + call, true);
    }

    /** Puts bytes on the tape, as many a call as can be. */
    Run feeds(String text) {
        for (int at = 0; at < text.length(); at += 4) {
            int n = Math.min(4, text.length() - at);
            int bytes = 0;
            for (int i = 0; i < n; i++) {
                bytes = bytes << 8 | text.charAt(at + i);
            }
            does("feed(" + bytes + ", " + n + ")");
        }
        return this;
    }

    Run reads(String text, int items) {
        does("wipe()");
        feeds(text);
        Due.due("text() of '" + text + "'", act("text()"), items);
        return due("count(5)", 0);
    }

    /** A FAULT empties the tape, is no finding, and changes nothing else. */
    Run faults(String text, int place) {
        does("wipe()");
        feeds(text);
        FeetBridge wiped = twin();
        wiped.wipe();
        Due.due("text() of '" + text + "'", act("text()"), -1 - place);
        FeetBridge read = twin();
        Due.due("status(-1) behind '" + text + "'", read.status(-1), wiped.status(-1));
        sameState("text() of '" + text + "'", read, wiped);
        return this;
    }

    /** PLANKS 0, 1, .. keep these gaits from now on; the last one counts for all behind it. */
    Run lays(int... gaits) {
        for (int i = 0; i < 12; i++) {
            does("plank(" + i + ", " + gaits[Math.min(i, gaits.length - 1)] + ")");
        }
        return this;
    }

    /** PLANKS 0, 1, .. keep these gaits; the last one counts for all behind it. */
    Run keeps(int... gaits) {
        for (int i = 0; i < 12; i++) {
            due("keeps(" + i + ")", gaits[Math.min(i, gaits.length - 1)]);
        }
        return this;
    }

    /** A sheet with these numbers. */
    Run fills(int s, int bits, int... numbers) {
        does("sheet(" + s + ", " + bits + ", " + numbers.length + ")");
        for (int i = 0; i < numbers.length; i++) {
            does("write(" + s + ", " + i + ", " + numbers[i] + ")");
        }
        return this;
    }

    /** A sheet of gaits is just this: told by load, so the PLANKS are changed. */
    Run loads(int s, int... numbers) {
        due("load(" + s + ")", numbers.length);
        for (int i = 0; i < numbers.length; i++) {
            due("keeps(" + i + ")", numbers[i]);
        }
        return this;
    }
}
