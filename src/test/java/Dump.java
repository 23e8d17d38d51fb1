import java.util.ArrayList;
import java.util.List;

/** All that can be seen of an object but status(), by some 270 calls that use it up. */
final class Dump {
    private final FeetBridge x;
    private final List<String> rows = new ArrayList<>();

    private Dump(FeetBridge x) {
        this.x = x;
    }

    static List<String> of(FeetBridge x) {
        Dump dump = new Dump(x);
        dump.bridge("as it is");
        for (int s = 0; s < 4; s++) {
            for (int t = s + 1; t < 4; t++) {
                dump.row("bits alike " + s + " " + t, x.copy(s, 0, t, 0, 0));
            }
        }
        for (int s = 0; s < 4; s++) {
            dump.sheet(s);
        }
        dump.row("text()", x.text());
        dump.bridge("behind text()");
        dump.row("undo()", x.undo());
        dump.bridge("behind undo()");
        return dump.rows;
    }

    private void row(String what, long answer) {
        rows.add(what + " answers " + answer);
    }

    private void bridge(String when) {
        planks(when);
        for (int what = 0; what < 8; what++) {
            row(when + ", count(" + what + ")", x.count(what));
        }
        row(when + ", night", x.now(3));
        for (int walker = 0; walker < x.count(1); walker++) {
            for (int what = 0; what < 4; what++) {
                row(when + ", of(" + walker + ", " + what + ")", x.of(walker, what));
            }
        }
        for (int spot = 0; spot < 10; spot++) {
            row(when + ", as(" + spot + ", 0)", x.as(spot, 0));
        }
    }

    private void planks(String when) {
        for (int plank = 0; plank < 12; plank++) {
            row(when + ", keeps(" + plank + ")", x.keeps(plank));
        }
    }

    private void sheet(int s) {
        int size = size(s);
        row("size of sheet " + s, size);
        row("load(" + s + ")", x.load(s));
        planks("behind load(" + s + ")");
        // A number cut to 8 bits is one that can be loaded, one cut to 16 only then if 16 bits are cut off.
        if (size > 0) {
            x.write(s, 0, 256 + 7);
            row("8 bits in sheet " + s, x.load(s));
            x.write(s, 0, 65536 + 7);
            row("16 bits in sheet " + s, x.load(s));
        }
    }

    /** -1 if it is MISSING. A copy of a sheet onto itself changes nothing, but tells how many numbers there are. */
    private int size(int s) {
        int low = -1;
        int high = 41;
        while (high - low > 1) {
            int middle = (low + high) / 2;
            if (x.copy(s, 0, s, 0, middle) == middle) {
                low = middle;
            } else {
                high = middle;
            }
        }
        return low;
    }
}
