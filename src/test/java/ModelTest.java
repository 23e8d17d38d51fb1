import java.lang.reflect.Method;
import java.lang.reflect.Modifier;
import java.util.ArrayList;
import java.util.Arrays;
import java.util.Comparator;
import java.util.List;
import java.util.Random;

/** Drawn runs of 512 calls, each answer held against PlainModel's. */
public final class ModelTest {
    private static final int RUNS = 400;
    private static final int CALLS = 512;
    private static final int[] WILD = {Integer.MIN_VALUE, -1000001, -2, -1, 0, 1, 6, 7, 10, 11, 12, 13, 21, 40, 41, 63,
        64, 99, 100, 9999, 10000, Integer.MAX_VALUE};

    private final Random random;
    private final FeetBridge real = new FeetBridge();
    private final PlainModel model = new PlainModel();
    private final List<String> calls = new ArrayList<>();

    private ModelTest(long seed) {
        random = new Random(seed);
    }

    public static void main(String[] args) throws Exception {
        int wrong = 0;
        for (int run = 0; run < RUNS && wrong < 5; run++) {
            wrong += new ModelTest(run).differs(run) ? 1 : 0;
        }
        System.out.println(RUNS + " drawn runs, " + wrong + " of them differ from the model");
        if (wrong != 0) {
            System.exit(1);
        }
    }

    private static List<Method> face() {
        List<Method> face = new ArrayList<>();
        for (Method m : FeetBridge.class.getDeclaredMethods()) {
            if (Modifier.isPublic(m.getModifiers())) {
                face.add(m);
            }
        }
        face.sort(Comparator.comparing(Method::getName));
        return face;
    }

    private boolean differs(int run) throws Exception {
        List<Method> face = face();
        while (calls.size() < CALLS) {
            boolean same;
            if (random.nextInt(25) == 0) {
                same = readsSame();
            } else {
                Method m = face.get(random.nextInt(face.size()));
                same = answersSame(m, arguments(m));
            }
            if (!same) {
                System.out.println("run " + run + ", the last calls:");
                calls.subList(Math.max(0, calls.size() - 30), calls.size()).forEach(System.out::println);
                return true;
            }
        }
        return false;
    }

    private boolean answersSame(Method m, Object... given) throws Exception {
        long got = ((Number) m.invoke(real, given)).longValue();
        long want = ((Number) PlainModel.class.getMethod(m.getName(), m.getParameterTypes()).invoke(model, given))
            .longValue();
        calls.add(m.getName() + Arrays.toString(given) + " answered " + got + ", due is " + want);
        return got == want;
    }

    private boolean readsSame() throws Exception {
        Method feed = FeetBridge.class.getMethod("feed", int.class, int.class);
        if (!answersSame(FeetBridge.class.getMethod("wipe"))) {
            return false;
        }
        String text = drawnText();
        for (int at = 0; at < text.length(); at += 4) {
            int n = Math.min(4, text.length() - at);
            int bytes = 0;
            for (int i = 0; i < n; i++) {
                bytes = bytes << 8 | text.charAt(at + i);
            }
            if (!answersSame(feed, bytes, n)) {
                return false;
            }
        }
        return answersSame(FeetBridge.class.getMethod("text"));
    }

    private String drawnText() {
        StringBuilder text = new StringBuilder();
        int items = 1 + random.nextInt(4);
        for (int i = 0; i < items; i++) {
            text.append(i == 0 ? "" : ";").append(drawnItem());
        }
        if (random.nextInt(3) == 0 && text.length() > 0) {
            String odd = " ;;0199azgaitbalancewalker\t\u00e1A";
            text.setCharAt(random.nextInt(text.length()), odd.charAt(random.nextInt(odd.length())));
        }
        if (random.nextInt(6) == 0) {
            text.setLength(random.nextInt(text.length() + 1));
        }
        return text.toString();
    }

    private String drawnItem() {
        String[] kinds = {"walker", "drunk", "marcher", "dancer", "mourner", "calm", "carried"};
        switch (random.nextInt(6)) {
            case 0:
                return " plank " + random.nextInt(13) + " " + random.nextInt(101);
            case 1:
                return "new " + random.nextInt(13);
            case 2:
                return "night ";
            case 3:
                return "day";
            default:
                return kinds[random.nextInt(7)] + (random.nextBoolean() ? " gait " + random.nextInt(101) : "")
                    + (random.nextBoolean() ? " balance" + random.nextInt(101) : "");
        }
    }

    private Object[] arguments(Method m) {
        Object[] given = new Object[m.getParameterCount()];
        for (int i = 0; i < given.length; i++) {
            given[i] = random.nextInt(20) == 0 ? WILD[random.nextInt(WILD.length)] : tame(m.getName(), i);
        }
        return given;
    }

    private int walkerNumber() {
        return random.nextInt(10) == 0 ? 6 : random.nextInt(Math.max(1, model.now.men.size()));
    }

    private int walkerSet() {
        return random.nextInt(1 << model.now.men.size());
    }

    private int tame(String name, int i) {
        switch (name) {
            case "plank":
                return i == 0 ? random.nextInt(12) : 20 + random.nextInt(60);
            case "keeps":
                return random.nextInt(12);
            case "walker":
                return i == 0 ? random.nextInt(7) : 20 + random.nextInt(60);
            case "of":
                return i == 0 ? walkerNumber() : random.nextInt(6);
            case "change":
                return i == 0 ? walkerNumber() : i == 1 ? random.nextInt(4)
                    : random.nextBoolean() ? random.nextInt(7) : random.nextInt(100);
            case "leaves":
                return i == 0 ? walkerNumber() : random.nextInt(12);
            case "crowd":
            case "orders":
            case "fewest":
                return walkerSet();
            case "order":
                return i == 0 ? walkerSet() : random.nextInt(4);
            case "fits":
            case "gait":
                return i == 0 ? random.nextInt(4) : walkerNumber();
            case "night":
                return random.nextInt(2);
            case "now":
                return random.nextInt(6);
            case "strangers":
                return 1 + random.nextInt(3);
            case "odds":
                return i == 0 ? walkerNumber() : i == 1 ? random.nextInt(15) : random.nextInt(2);
            case "seed":
                return random.nextInt();
            case "feed":
                return i == 0 ? random.nextInt() : 1 + random.nextInt(4);
            case "hold":
                return i == 0 ? random.nextInt(10) : walkerNumber();
            case "as":
                return i == 0 ? random.nextInt(10) : random.nextInt(7);
            case "count":
            case "status":
                return random.nextInt(8) - (name.equals("status") ? 1 : 0);
            case "sheet":
                return i == 0 ? random.nextInt(4) : i == 1 ? 8 * (1 << random.nextInt(3)) : random.nextInt(14);
            case "write":
                return i == 0 ? random.nextInt(4) : i == 1 ? random.nextInt(6) : writtenNumber();
            case "copy":
                return i == 0 || i == 2 ? random.nextInt(4) : random.nextInt(5);
            case "load":
            case "judge":
            case "who":
                return random.nextInt(4);
            default:
                return walkerNumber();
        }
    }

    private int writtenNumber() {
        switch (random.nextInt(4)) {
            case 0:
                return -1;
            case 1:
                return random.nextInt(6);
            case 2:
                return random.nextInt(100);
            default:
                return model.now.keeps[random.nextInt(12)] + 256 * random.nextInt(3);
        }
    }
}
