/** Counts answers that are not the ones that are due. */
final class Due {
    static final int BEYOND = -1000001;
    static final int FULL = -1000002;
    static final int KIND = -1000003;
    static final int NONE = -1000004;
    static final int STATE = -1000005;
    static final int MISSING = -1000006;
    static final int SIZE = -1000007;

    private static int wrong = 0;
    private static int asked = 0;
    private static String part = "";

    private Due() {
    }

    static void part(String name) {
        part = name;
    }

    static void due(String call, long got, long want) {
        asked++;
        if (got != want) {
            wrong++;
            System.out.println(part + ": " + call + " answered " + got + ", due is " + want);
        }
    }

    static void holds(String what, boolean so) {
        due(what, so ? 1 : 0, 1);
    }

    static int asked() {
        return asked;
    }

    static void end() {
        System.out.println(asked + " answers, " + wrong + " of them not as due");
        if (wrong != 0 || asked == 0) {
            System.exit(1);
        }
    }

    /** Puts a text on the tape, as many bytes a call as can be. */
    static void feedText(FeetBridge x, String text) {
        for (int at = 0; at < text.length(); at += 4) {
            int n = Math.min(4, text.length() - at);
            int bytes = 0;
            for (int i = 0; i < n; i++) {
                bytes = bytes << 8 | text.charAt(at + i);
            }
            x.feed(bytes, n);
        }
    }

    static int read(FeetBridge x, String text) {
        x.wipe();
        feedText(x, text);
        return x.text();
    }

    static void keepAll(FeetBridge x, int... gaits) {
        for (int i = 0; i < 12; i++) {
            x.plank(i, gaits[Math.min(i, gaits.length - 1)]);
        }
    }

    static void dueRow(String call, FeetBridge x, int... gaits) {
        for (int i = 0; i < 12; i++) {
            due(call + ", keeps(" + i + ")", x.keeps(i), gaits[Math.min(i, gaits.length - 1)]);
        }
    }
}
