import java.math.BigInteger;
import java.util.ArrayList;
import java.util.Arrays;
import java.util.List;
import java.util.function.Function;
import java.util.regex.Matcher;
import java.util.regex.Pattern;

/** The document once more, by other means and without regard to cost: ModelTest holds the class against it. */
public final class PlainModel {
    enum Found { BEYOND, FULL, KIND, NONE, STATE, MISSING, SIZE }

    static final class Finding extends RuntimeException {
        private static final long serialVersionUID = 1L;
        final Found found;

        Finding(Found found) {
            super(null, null, false, false);
            this.found = found;
        }
    }

    enum Sort {
        WALKER(null), DRUNK(WALKER), MARCHER(WALKER), DANCER(MARCHER), MOURNER(DANCER), CALM(WALKER), CARRIED(DRUNK);

        final Sort above;

        Sort(Sort above) {
            this.above = above;
        }
    }

    static final class Man {
        Sort sort;
        int gait = 50;
        int balance = 30;
        int fell = 0;

        Man same() {
            Man m = new Man();
            m.sort = sort;
            m.gait = gait;
            m.balance = balance;
            m.fell = fell;
            return m;
        }
    }

    static final class World {
        int[] keeps = new int[12];
        List<Man> men = new ArrayList<>();
        Integer[] spots = new Integer[10];
        boolean night = false;
        int crossings = 0;
        int z = 1;

        World() {
            Arrays.fill(keeps, 50);
        }

        World same() {
            World w = new World();
            w.keeps = keeps.clone();
            for (Man m : men) {
                w.men.add(m.same());
            }
            w.spots = spots.clone();
            w.night = night;
            w.crossings = crossings;
            w.z = z;
            return w;
        }

        int bears(Sort sort, int balance) {
            return switch (sort) {
                case WALKER -> balance;
                case DRUNK -> balance / 2;
                case CARRIED -> bears(Sort.DRUNK, balance) + 40;
                case MARCHER -> Math.max(bears(Sort.WALKER, balance) - 10, 0);
                case DANCER -> bears(Sort.MARCHER, balance) + 20;
                case MOURNER -> night ? 99 : bears(Sort.DANCER, balance);
                case CALM -> 99;
            };
        }

        boolean falls(Man m, int p) {
            return Math.max(m.gait, keeps[p]) - Math.min(m.gait, keeps[p]) > bears(m.sort, m.balance);
        }

        static int more(Sort sort, int gait, int keeps) {
            return switch (sort) {
                case WALKER -> (keeps - gait) / 4;
                case DRUNK -> (keeps - gait) / 2;
                case CARRIED, MARCHER -> 0;
                case DANCER -> (keeps - gait) / 10 + 1;
                case MOURNER -> more(Sort.DANCER, gait, keeps) - 2;
                case CALM -> Math.abs(20 - gait) <= 5 ? 20 - gait : Integer.signum(20 - gait) * 5;
            };
        }

        static int left(Sort sort, int gait, int kept) {
            return switch (sort) {
                case WALKER, CARRIED -> gait;
                case DRUNK -> gait + 5;
                case MARCHER -> (gait + kept) / 2;
                case DANCER, MOURNER -> left(Sort.MARCHER, gait, kept) + 3;
                case CALM -> 20;
            };
        }

        static int held(int v) {
            return v < 0 ? 0 : v > 99 ? 99 : v;
        }

        int cross(int walker) {
            Man m = men.get(walker);
            int first = m.gait;
            crossings++;
            for (int p = 0; p < 12; p++) {
                if (falls(m, p)) {
                    m.gait = first;
                    m.fell = Math.min(9999, m.fell + 1);
                    return p;
                }
                int ahead = m.gait;
                m.gait = held(ahead + more(m.sort, ahead, keeps[p]));
                keeps[p] = held(left(m.sort, ahead, keeps[p]));
            }
            return 12;
        }
    }

    World now = new World();
    World kept = null;
    List<Integer> tape = new ArrayList<>();
    int[][] sheets = new int[4][];
    int[] widths = new int[4];
    int[] counts = new int[7];

    interface Act {
        long run();
    }

    long act(Act a) {
        try {
            return a.run();
        } catch (Finding f) {
            counts[f.found.ordinal()]++;
            return -1000001 - f.found.ordinal();
        }
    }

    static void unless(boolean good, Found f) {
        if (!good) {
            throw new Finding(f);
        }
    }

    static boolean in(int v, int low, int high) {
        return low <= v && v <= high;
    }

    void needPlank(int p) {
        unless(in(p, 0, 11), Found.BEYOND);
    }

    void needWalker(int w) {
        unless(in(w, 0, now.men.size() - 1), Found.BEYOND);
    }

    List<Integer> members(int set) {
        List<Integer> list = new ArrayList<>();
        for (int i = 0; i < 32; i++) {
            if ((set >>> i & 1) == 1) {
                unless(i < now.men.size(), Found.BEYOND);
                list.add(i);
            }
        }
        return list;
    }

    static int sum(int[] row) {
        return Arrays.stream(row).sum();
    }

    public int plank(int plank, int v) {
        return (int) act(() -> {
            needPlank(plank);
            unless(in(v, 0, 99), Found.BEYOND);
            int was = now.keeps[plank];
            now.keeps[plank] = v;
            return was;
        });
    }

    public int keeps(int plank) {
        return (int) act(() -> {
            needPlank(plank);
            return now.keeps[plank];
        });
    }

    public int walker(int kind, int gait) {
        return (int) act(() -> {
            unless(in(kind, 0, 6) && in(gait, 0, 99), Found.BEYOND);
            unless(now.men.size() < 6, Found.FULL);
            Man m = new Man();
            m.sort = Sort.values()[kind];
            m.gait = gait;
            now.men.add(m);
            return now.men.size() - 1;
        });
    }

    int badPlanks(int walker) {
        int set = 0;
        for (int p = 0; p < 12; p++) {
            set += now.falls(now.men.get(walker), p) ? 1 << p : 0;
        }
        return set;
    }

    public int of(int walker, int what) {
        return (int) act(() -> {
            needWalker(walker);
            unless(in(what, 0, 5), Found.BEYOND);
            Man m = now.men.get(walker);
            return new int[] {m.sort.ordinal(), m.gait, m.balance, m.fell, now.bears(m.sort, m.balance),
                badPlanks(walker)}[what];
        });
    }

    public int change(int walker, int what, int v) {
        return (int) act(() -> {
            needWalker(walker);
            unless(in(what, 0, 3), Found.BEYOND);
            unless(in(v, 0, new int[] {6, 99, 99, 9999}[what]), Found.BEYOND);
            Man m = now.men.get(walker);
            int was = of(walker, what);
            if (what == 0) {
                m.sort = Sort.values()[v];
            } else if (what == 1) {
                m.gait = v;
            } else if (what == 2) {
                m.balance = v;
            } else {
                m.fell = v;
            }
            return was;
        });
    }

    public int night(int v) {
        return (int) act(() -> {
            unless(in(v, 0, 1), Found.BEYOND);
            boolean was = now.night;
            now.night = v == 1;
            return was ? 1 : 0;
        });
    }

    public int cross(int walker) {
        return (int) act(() -> {
            needWalker(walker);
            unless(now.crossings < 99999, Found.STATE);
            return now.cross(walker);
        });
    }

    public int crowd(int walkers) {
        return (int) act(() -> {
            List<Integer> list = members(walkers);
            unless(now.crossings + list.size() <= 99999, Found.STATE);
            return list.stream().mapToInt(now::cross).filter(p -> p < 12).count();
        });
    }

    int allFell() {
        return now.men.stream().mapToInt(m -> m.fell).sum();
    }

    int allGaits() {
        return now.men.stream().mapToInt(m -> m.gait).sum();
    }

    int fallers(World w) {
        int set = 0;
        for (int i = 0; i < w.men.size(); i++) {
            set += w.same().cross(i) < 12 ? 1 << i : 0;
        }
        return set;
    }

    public int now(int what) {
        return (int) act(() -> {
            unless(in(what, 0, 5), Found.BEYOND);
            return new int[] {now.crossings, sum(now.keeps), fallers(now), now.night ? 1 : 0, allFell(),
                allGaits()}[what];
        });
    }

    public int would(int walker) {
        return (int) act(() -> {
            needWalker(walker);
            return now.same().cross(walker);
        });
    }

    World crossed(World from, int... walkers) {
        World w = from.same();
        for (int i : walkers) {
            w.cross(i);
        }
        return w;
    }

    public int becomes(int walker) {
        return (int) act(() -> {
            needWalker(walker);
            return crossed(now, walker).men.get(walker).gait;
        });
    }

    public int leaves(int walker, int plank) {
        return (int) act(() -> {
            needWalker(walker);
            needPlank(plank);
            return crossed(now, walker).keeps[plank];
        });
    }

    public int after(int walker, int first) {
        return (int) act(() -> {
            needWalker(walker);
            needWalker(first);
            unless(walker != first, Found.BEYOND);
            return crossed(now, first).cross(walker);
        });
    }

    public int often(int walker) {
        return (int) act(() -> {
            needWalker(walker);
            World w = now.same();
            for (int i = 0; i < 60; i++) {
                if (w.cross(walker) < 12) {
                    return i;
                }
            }
            return 60;
        });
    }

    /** The values below a bound with which one would cross now, when set by a change. */
    List<Integer> crossingWith(int walker, int bound, Function<Integer, World> changed) {
        List<Integer> good = new ArrayList<>();
        for (int v = 0; v < bound; v++) {
            if (changed.apply(v).cross(walker) == 12) {
                good.add(v);
            }
        }
        return good;
    }

    List<Integer> goodGaits(int walker) {
        return crossingWith(walker, 100, v -> withGait(walker, v));
    }

    World withGait(int walker, int v) {
        World w = now.same();
        w.men.get(walker).gait = v;
        return w;
    }

    static int first(List<Integer> list) {
        unless(!list.isEmpty(), Found.NONE);
        return list.get(0);
    }

    public int balanceFor(int walker) {
        return (int) act(() -> {
            needWalker(walker);
            return first(crossingWith(walker, 100, v -> {
                World w = now.same();
                w.men.get(walker).balance = v;
                return w;
            }));
        });
    }

    public int gaits(int walker) {
        return (int) act(() -> {
            needWalker(walker);
            return goodGaits(walker).size();
        });
    }

    public int gaitFor(int walker) {
        return (int) act(() -> {
            needWalker(walker);
            return first(goodGaits(walker));
        });
    }

    public int kindsFor(int walker) {
        return (int) act(() -> {
            needWalker(walker);
            return crossingWith(walker, 7, v -> {
                World w = now.same();
                w.men.get(walker).sort = Sort.values()[v];
                return w;
            }).stream().mapToInt(v -> 1 << v).sum();
        });
    }

    static List<List<Integer>> permutations(List<Integer> of) {
        List<List<Integer>> all = new ArrayList<>();
        if (of.isEmpty()) {
            all.add(new ArrayList<>());
        }
        for (Integer head : of) {
            List<Integer> rest = new ArrayList<>(of);
            rest.remove(head);
            for (List<Integer> tail : permutations(rest)) {
                List<Integer> whole = new ArrayList<>();
                whole.add(head);
                whole.addAll(tail);
                all.add(whole);
            }
        }
        return all;
    }

    int fallsIn(List<Integer> order) {
        World w = now.same();
        return (int) order.stream().mapToInt(w::cross).filter(p -> p < 12).count();
    }

    List<List<Integer>> safe(List<Integer> set) {
        List<List<Integer>> good = new ArrayList<>();
        for (List<Integer> order : permutations(set)) {
            if (fallsIn(order) == 0) {
                good.add(order);
            }
        }
        return good;
    }

    public int order(int walkers, int place) {
        return (int) act(() -> {
            List<Integer> set = members(walkers);
            unless(in(place, 0, set.size() - 1), Found.BEYOND);
            List<List<Integer>> good = safe(set);
            unless(!good.isEmpty(), Found.NONE);
            return good.get(0).get(place);
        });
    }

    public int orders(int walkers) {
        return (int) act(() -> safe(members(walkers)).size());
    }

    public int fewest(int walkers) {
        return (int) act(() -> permutations(members(walkers)).stream().mapToInt(this::fallsIn).min().getAsInt());
    }

    public int most() {
        int best = 0;
        for (int set = 1; set < 1 << now.men.size(); set++) {
            if (Integer.bitCount(set) > Integer.bitCount(best) && !safe(members(set)).isEmpty()) {
                best = set;
            }
        }
        return best;
    }

    World laid(int set) {
        World w = now.same();
        for (int p = 0; p < 12; p++) {
            if ((set >> p & 1) == 1) {
                w.keeps[p] = 50;
            }
        }
        return w;
    }

    public int lay(int walker) {
        return (int) act(() -> {
            needWalker(walker);
            for (int many = 0; many <= 3; many++) {
                for (int set = 0; set < 4096; set++) {
                    if (Integer.bitCount(set) == many && laid(set).cross(walker) == 12) {
                        return set;
                    }
                }
            }
            throw new Finding(Found.NONE);
        });
    }

    public int best() {
        int best = 0;
        for (int p = 1; p < 12; p++) {
            if (Integer.bitCount(fallers(laid(1 << p))) < Integer.bitCount(fallers(laid(1 << best)))) {
                best = p;
            }
        }
        return best;
    }

    int apart(int a, int b) {
        int[] one = crossed(now, a).keeps;
        int[] two = crossed(now, b).keeps;
        int all = 0;
        for (int p = 0; p < 12; p++) {
            all += Math.abs(one[p] - two[p]);
        }
        return all;
    }

    public int unlike(int a, int b) {
        return (int) act(() -> {
            needWalker(a);
            needWalker(b);
            unless(a != b, Found.BEYOND);
            return apart(a, b);
        });
    }

    public int taken(int walker) {
        return (int) act(() -> {
            needWalker(walker);
            int best = -1;
            for (int i = now.men.size() - 1; i >= 0; i--) {
                if (i != walker && (best < 0 || apart(walker, i) <= apart(walker, best))) {
                    best = i;
                }
            }
            unless(best >= 0, Found.NONE);
            return best;
        });
    }

    void needSheet(int s) {
        unless(in(s, 0, 3), Found.BEYOND);
        unless(sheets[s] != null, Found.MISSING);
    }

    boolean told(int s, int[] keeps) {
        for (int i = 0; i < sheets[s].length; i++) {
            if (sheets[s][i] != -1 && sheets[s][i] != keeps[i]) {
                return false;
            }
        }
        return true;
    }

    List<Integer> fitting(int s, int walker) {
        needSheet(s);
        needWalker(walker);
        unless(sheets[s].length <= 12, Found.STATE);
        List<Integer> good = new ArrayList<>();
        for (int g = 0; g < 100; g++) {
            if (told(s, crossed(withGait(walker, g), walker).keeps)) {
                good.add(g);
            }
        }
        return good;
    }

    public int fits(int s, int walker) {
        return (int) act(() -> fitting(s, walker).size());
    }

    public int gait(int s, int walker) {
        return (int) act(() -> first(fitting(s, walker)));
    }

    public int who(int s) {
        return (int) act(() -> {
            needSheet(s);
            unless(sheets[s].length <= 12, Found.STATE);
            int set = 0;
            for (int i = 0; i < now.men.size(); i++) {
                set += told(s, crossed(now, i).keeps) ? 1 << i : 0;
            }
            return set;
        });
    }

    int draw() {
        now.z = now.z * 1103515245 + 12345;
        return now.z >>> 8;
    }

    public int strangers(int n) {
        return (int) act(() -> {
            unless(in(n, 1, 20), Found.BEYOND);
            for (int i = 0; i < n; i++) {
                int p = draw() % 12;
                now.keeps[p] = draw() % 100;
            }
            return sum(now.keeps);
        });
    }

    public long odds(int walker, int n, int what) {
        return act(() -> {
            needWalker(walker);
            unless(in(n, 0, 14) && in(what, 0, 1), Found.BEYOND);
            BigInteger above = BigInteger.valueOf(12 - Integer.bitCount(badPlanks(walker))).pow(n);
            BigInteger below = BigInteger.valueOf(12).pow(n);
            return (what == 0 ? above : below).divide(above.gcd(below)).longValueExact();
        });
    }

    public int seed(int v) {
        int was = now.z;
        now.z = v;
        return was;
    }

    public int feed(int bytes, int n) {
        return (int) act(() -> {
            unless(in(n, 1, 4), Found.BEYOND);
            unless(tape.size() + n <= 120, Found.FULL);
            for (int i = n; i > 0; i--) {
                tape.add((bytes >> 8 * (i - 1)) & 0xff);
            }
            return tape.size();
        });
    }

    public int wipe() {
        int had = tape.size();
        tape.clear();
        return had;
    }

    static final class Fault extends Exception {
        private static final long serialVersionUID = 1L;
        final int place;

        Fault(int place) {
            super(null, null, false, false);
            this.place = place;
        }
    }

    record Token(String text, int place) { }

    int next;
    List<Token> tokens;

    Token peek() {
        return tokens.get(next);
    }

    int number(int most) throws Fault {
        Token t = peek();
        if (!t.text.matches("[0-9]+") || new BigInteger(t.text).compareTo(BigInteger.valueOf(most)) > 0) {
            throw new Fault(t.place);
        }
        next++;
        return Integer.parseInt(t.text);
    }

    void item(World w) throws Fault {
        Token t = peek();
        next++;
        List<String> kinds = List.of("walker", "drunk", "marcher", "dancer", "mourner", "calm", "carried");
        if (kinds.contains(t.text) && w.men.size() < 6) {
            Man m = new Man();
            m.sort = Sort.values()[kinds.indexOf(t.text)];
            if (peek().text.equals("gait")) {
                next++;
                m.gait = number(99);
            }
            if (peek().text.equals("balance")) {
                next++;
                m.balance = number(99);
            }
            w.men.add(m);
        } else if (t.text.equals("plank")) {
            int p = number(11);
            w.keeps[p] = number(99);
        } else if (t.text.equals("new")) {
            w.keeps[number(11)] = 50;
        } else if (t.text.equals("night") || t.text.equals("day")) {
            w.night = t.text.equals("night");
        } else {
            throw new Fault(t.place);
        }
    }

    public int text() {
        StringBuilder b = new StringBuilder();
        for (int c : tape) {
            b.append((char) c);
        }
        tape.clear();
        tokens = new ArrayList<>();
        next = 0;
        Matcher m = Pattern.compile("[a-z]+|[0-9]+|[^ ]").matcher(b);
        while (m.find()) {
            tokens.add(new Token(m.group(), m.start()));
        }
        tokens.add(new Token("", b.length()));
        World w = now.same();
        int items = 0;
        try {
            while (true) {
                item(w);
                items++;
                Token t = peek();
                next++;
                if (t.text.isEmpty()) {
                    now = w;
                    return items;
                }
                if (!t.text.equals(";")) {
                    throw new Fault(t.place);
                }
            }
        } catch (Fault f) {
            return -1 - f.place;
        }
    }

    public int hold(int spot, int walker) {
        return (int) act(() -> {
            unless(in(spot, 0, 9) && in(walker, -1, now.men.size() - 1), Found.BEYOND);
            now.spots[spot] = walker < 0 ? null : Integer.valueOf(walker);
            return 1;
        });
    }

    public int as(int spot, int kind) {
        return (int) act(() -> {
            unless(in(spot, 0, 9) && in(kind, 0, 6), Found.BEYOND);
            unless(now.spots[spot] != null, Found.MISSING);
            Sort s = now.men.get(now.spots[spot]).sort;
            while (s != null && s.ordinal() != kind) {
                s = s.above;
            }
            unless(s != null, Found.KIND);
            return now.spots[spot];
        });
    }

    public int sheet(int s, int bits, int n) {
        return (int) act(() -> {
            unless(in(s, 0, 3) && List.of(0, 8, 16, 32).contains(bits), Found.BEYOND);
            unless(n >= 0, Found.SIZE);
            unless(n <= 40, Found.BEYOND);
            widths[s] = bits;
            sheets[s] = bits == 0 ? null : new int[n];
            return bits == 0 ? 0 : n;
        });
    }

    public int write(int s, int i, int v) {
        return (int) act(() -> {
            needSheet(s);
            unless(in(i, 0, sheets[s].length - 1), Found.BEYOND);
            sheets[s][i] = v << (32 - widths[s]) >> (32 - widths[s]);
            return 1;
        });
    }

    public int copy(int s, int from, int t, int to, int n) {
        return (int) act(() -> {
            unless(in(s, 0, 3) && in(t, 0, 3), Found.BEYOND);
            unless(sheets[s] != null && sheets[t] != null, Found.MISSING);
            unless(widths[s] == widths[t], Found.KIND);
            unless(from >= 0 && to >= 0 && n >= 0 && (long) from + n <= sheets[s].length
                && (long) to + n <= sheets[t].length, Found.BEYOND);
            int[] part = Arrays.copyOfRange(sheets[s], from, from + n);
            System.arraycopy(part, 0, sheets[t], to, n);
            return n;
        });
    }

    public int load(int s) {
        return (int) act(() -> {
            needSheet(s);
            for (int i = 0; i < sheets[s].length; i++) {
                if (i == 12 || !in(sheets[s][i], 0, 99)) {
                    return i;
                }
                now.keeps[i] = sheets[s][i];
            }
            return sheets[s].length;
        });
    }

    public int judge(int s) {
        return (int) act(() -> {
            needSheet(s);
            World w = now.same();
            List<Integer> seen = new ArrayList<>();
            for (int v : sheets[s]) {
                if (!in(v, 0, w.men.size() - 1) || seen.contains(v) || w.cross(v) < 12) {
                    return 1 + seen.size();
                }
                seen.add(v);
            }
            return 0;
        });
    }

    public int image() {
        kept = now.same();
        return 1;
    }

    public int undo() {
        return (int) act(() -> {
            unless(kept != null, Found.NONE);
            now = kept.same();
            return now.crossings;
        });
    }

    public int tear() {
        int was = kept == null ? 0 : 1;
        kept = null;
        return was;
    }

    public int count(int what) {
        return (int) act(() -> {
            unless(in(what, 0, 7), Found.BEYOND);
            int held = (int) Arrays.stream(now.spots).filter(v -> v != null).count();
            return new int[] {now.crossings, now.men.size(), allFell(), allGaits(), sum(now.keeps), tape.size(), now.z,
                held}[what];
        });
    }

    public int status(int which) {
        return (int) act(() -> {
            unless(in(which, -1, 6), Found.BEYOND);
            return which < 0 ? sum(counts) : counts[which];
        });
    }
}
