/** The bridge that remembers feet. Its promises stand in ../shared/DOC.md. */
public final class FeetBridge {
    private static final int BEYOND = -1000001;
    private static final int FULL = BEYOND - 1;
    private static final int KIND = BEYOND - 2;
    private static final int NONE = BEYOND - 3;
    private static final int STATE = BEYOND - 4;
    private static final int MISSING = BEYOND - 5;
    private static final int SIZE = BEYOND - 6;
    private static final int FINDINGS = 7;

    private static final int PLANKS = 12;
    private static final int WALKERS = 6;
    private static final int SPOTS = 10;
    private static final int SHEETS = 4;
    private static final int SHEET_SIZE = 40;
    private static final int TAPE_SIZE = 120;

    private static final int TOP = 99;
    private static final int MOST_FELL = 9999;
    private static final int MOST_CROSSINGS = 99999;
    private static final int MOST_OFTEN = 60;
    private static final int MOST_LAID = 3;
    private static final int MOST_STRANGERS = 20;
    private static final int MOST_ODDS = 14;

    private static final int NEW_PLANK = 50;
    private static final int NEW_GAIT = 50;
    private static final int NEW_BALANCE = 30;
    private static final int CALM_GAIT = 20;
    private static final int NOBODY = -1;
    private static final int ANY = -1;

    private static final int WALKER = 0;
    private static final int DRUNK = 1;
    private static final int MARCHER = 2;
    private static final int DANCER = 3;
    private static final int MOURNER = 4;
    private static final int CALM = 5;
    private static final int CARRIED = 6;
    private static final int[] KIND_ABOVE = {-1, WALKER, WALKER, MARCHER, DANCER, WALKER, DRUNK};

    private final Bridge bridge = new Bridge();
    private final Bridge kept = new Bridge();
    private final Bridge draft = new Bridge();
    private final Walk walk = new Walk();
    private final int[] otherRow = new int[PLANKS];
    private final Queue queue = new Queue();
    private final Reader reader = new Reader();
    private final Sheets sheets = new Sheets();
    private final int[] found = new int[FINDINGS];
    private boolean isKept = false;

    public FeetBridge() {
    }

    // ---- planks, walkers

    public int plank(int plank, int v) {
        if (!isPlank(plank) || !isGait(v)) {
            return tell(BEYOND);
        }
        int was = bridge.keeps[plank];
        bridge.keeps[plank] = v;
        return was;
    }

    public int keeps(int plank) {
        return isPlank(plank) ? bridge.keeps[plank] : tell(BEYOND);
    }

    public int walker(int kind, int gait) {
        if (!isKind(kind) || !isGait(gait)) {
            return tell(BEYOND);
        }
        if (bridge.isFull()) {
            return tell(FULL);
        }
        return bridge.add(kind, gait, NEW_BALANCE);
    }

    public int of(int walker, int what) {
        if (!bridge.has(walker)) {
            return tell(BEYOND);
        }
        switch (what) {
            case 0:
                return bridge.kinds[walker];
            case 1:
                return bridge.gaits[walker];
            case 2:
                return bridge.balances[walker];
            case 3:
                return bridge.falls[walker];
            case 4:
                return bridge.bears(walker);
            case 5:
                return bridge.unfit(walker);
            default:
                return tell(BEYOND);
        }
    }

    public int change(int walker, int what, int v) {
        if (!bridge.has(walker) || v < 0) {
            return tell(BEYOND);
        }
        switch (what) {
            case 0:
                return v <= CARRIED ? replace(bridge.kinds, walker, v) : tell(BEYOND);
            case 1:
                return v <= TOP ? replace(bridge.gaits, walker, v) : tell(BEYOND);
            case 2:
                return v <= TOP ? replace(bridge.balances, walker, v) : tell(BEYOND);
            case 3:
                return v <= MOST_FELL ? replace(bridge.falls, walker, v) : tell(BEYOND);
            default:
                return tell(BEYOND);
        }
    }

    public int night(int v) {
        if (v != 0 && v != 1) {
            return tell(BEYOND);
        }
        int was = bridge.night;
        bridge.night = v;
        return was;
    }

    // ---- crossings

    public int cross(int walker) {
        if (!bridge.has(walker)) {
            return tell(BEYOND);
        }
        if (bridge.crossings + 1 > MOST_CROSSINGS) {
            return tell(STATE);
        }
        return reallyCross(walker);
    }

    public int crowd(int walkers) {
        if (!bridge.hasAll(walkers)) {
            return tell(BEYOND);
        }
        if (bridge.crossings + Integer.bitCount(walkers) > MOST_CROSSINGS) {
            return tell(STATE);
        }
        int fallen = 0;
        for (int w = 0; w < WALKERS; w++) {
            if (isIn(walkers, w) && reallyCross(w) < PLANKS) {
                fallen++;
            }
        }
        return fallen;
    }

    public int now(int what) {
        switch (what) {
            case 0:
                return bridge.crossings;
            case 1:
                return sum(bridge.keeps, PLANKS);
            case 2:
                return fallers();
            case 3:
                return bridge.night;
            case 4:
                return sum(bridge.falls, bridge.walkers);
            case 5:
                return sum(bridge.gaits, bridge.walkers);
            default:
                return tell(BEYOND);
        }
    }

    // ---- what would be (nothing changes)

    public int would(int walker) {
        return bridge.has(walker) ? tryWalk(walker) : tell(BEYOND);
    }

    public int becomes(int walker) {
        if (!bridge.has(walker)) {
            return tell(BEYOND);
        }
        tryWalk(walker);
        return walk.gait;
    }

    public int leaves(int walker, int plank) {
        if (!bridge.has(walker) || !isPlank(plank)) {
            return tell(BEYOND);
        }
        tryWalk(walker);
        return walk.row[plank];
    }

    public int after(int walker, int first) {
        if (!bridge.has(walker) || !bridge.has(first) || walker == first) {
            return tell(BEYOND);
        }
        tryWalk(first);
        walk.become(bridge, walker);
        return walk.go(walk.row);
    }

    public int often(int walker) {
        if (!bridge.has(walker)) {
            return tell(BEYOND);
        }
        prepare(walker);
        int times = 0;
        while (times < MOST_OFTEN && walk.go(walk.row) == PLANKS) {
            times++;
        }
        return times;
    }

    public int balanceFor(int walker) {
        if (!bridge.has(walker)) {
            return tell(BEYOND);
        }
        for (int balance = 0; balance <= TOP; balance++) {
            prepare(walker);
            walk.balance = balance;
            if (walk.go(walk.row) == PLANKS) {
                return balance;
            }
        }
        return tell(NONE);
    }

    public int gaits(int walker) {
        if (!bridge.has(walker)) {
            return tell(BEYOND);
        }
        int many = 0;
        for (int gait = 0; gait <= TOP; gait++) {
            if (tryGait(walker, gait) == PLANKS) {
                many++;
            }
        }
        return many;
    }

    public int gaitFor(int walker) {
        if (!bridge.has(walker)) {
            return tell(BEYOND);
        }
        for (int gait = 0; gait <= TOP; gait++) {
            if (tryGait(walker, gait) == PLANKS) {
                return gait;
            }
        }
        return tell(NONE);
    }

    public int kindsFor(int walker) {
        if (!bridge.has(walker)) {
            return tell(BEYOND);
        }
        int set = 0;
        for (int kind = WALKER; kind <= CARRIED; kind++) {
            prepare(walker);
            walk.kind = kind;
            if (walk.go(walk.row) == PLANKS) {
                set |= 1 << kind;
            }
        }
        return set;
    }

    // ---- orders

    public int order(int walkers, int place) {
        if (!bridge.hasAll(walkers) || place < 0 || place >= Integer.bitCount(walkers)) {
            return tell(BEYOND);
        }
        return queue.findOrder(bridge, walkers) ? queue.placed(place) : tell(NONE);
    }

    public int orders(int walkers) {
        return bridge.hasAll(walkers) ? queue.countOrders(bridge, walkers) : tell(BEYOND);
    }

    public int fewest(int walkers) {
        return bridge.hasAll(walkers) ? queue.countFalls(bridge, walkers) : tell(BEYOND);
    }

    public int most() {
        return queue.findGreatest(bridge);
    }

    // ---- planks laid new

    public int lay(int walker) {
        if (!bridge.has(walker)) {
            return tell(BEYOND);
        }
        for (int many = 0; many <= MOST_LAID; many++) {
            int set = layMore(walker, 0, PLANKS, many);
            if (set >= 0) {
                return set;
            }
        }
        return tell(NONE);
    }

    public int best() {
        int bestPlank = 0;
        int fewestFallen = WALKERS + 1;
        for (int plank = 0; plank < PLANKS; plank++) {
            int fallen = 0;
            for (int w = 0; w < bridge.walkers; w++) {
                if (!crossesLaid(w, 1 << plank)) {
                    fallen++;
                }
            }
            if (fallen < fewestFallen) {
                fewestFallen = fallen;
                bestPlank = plank;
            }
        }
        return bestPlank;
    }

    // ---- who is taken for whom, what swayed

    public int unlike(int a, int b) {
        if (!bridge.has(a) || !bridge.has(b) || a == b) {
            return tell(BEYOND);
        }
        return difference(a, b);
    }

    public int taken(int walker) {
        if (!bridge.has(walker)) {
            return tell(BEYOND);
        }
        int nearest = NOBODY;
        int least = 0;
        for (int w = 0; w < bridge.walkers; w++) {
            if (w != walker) {
                int apart = difference(walker, w);
                if (nearest == NOBODY || apart < least) {
                    nearest = w;
                    least = apart;
                }
            }
        }
        return nearest == NOBODY ? tell(NONE) : nearest;
    }

    public int fits(int s, int walker) {
        int finding = swayFinding(s, walker);
        if (finding != 0) {
            return tell(finding);
        }
        int many = 0;
        for (int gait = 0; gait <= TOP; gait++) {
            tryGait(walker, gait);
            if (sheets.tells(s, walk.row)) {
                many++;
            }
        }
        return many;
    }

    public int gait(int s, int walker) {
        int finding = swayFinding(s, walker);
        if (finding != 0) {
            return tell(finding);
        }
        for (int gait = 0; gait <= TOP; gait++) {
            tryGait(walker, gait);
            if (sheets.tells(s, walk.row)) {
                return gait;
            }
        }
        return tell(NONE);
    }

    public int who(int s) {
        int finding = sheets.finding(s);
        if (finding != 0) {
            return tell(finding);
        }
        if (sheets.sizes[s] > PLANKS) {
            return tell(STATE);
        }
        int set = 0;
        for (int w = 0; w < bridge.walkers; w++) {
            tryWalk(w);
            if (sheets.tells(s, walk.row)) {
                set |= 1 << w;
            }
        }
        return set;
    }

    // ---- strangers

    public int strangers(int n) {
        if (n < 1 || n > MOST_STRANGERS) {
            return tell(BEYOND);
        }
        for (int i = 0; i < n; i++) {
            int plank = bridge.draw() % PLANKS;
            int gait = bridge.draw() % (TOP + 1);
            if (isPlank(plank)) {
                bridge.keeps[plank] = gait;
            }
        }
        return sum(bridge.keeps, PLANKS);
    }

    public long odds(int walker, int n, int what) {
        if (!bridge.has(walker) || n < 0 || n > MOST_ODDS || (what != 0 && what != 1)) {
            return tell(BEYOND);
        }
        int good = PLANKS - Integer.bitCount(bridge.unfit(walker));
        int common = commonDivisor(PLANKS, good);
        return common == 0 ? 0 : power((what == 0 ? good : PLANKS) / common, n);
    }

    public int seed(int v) {
        int was = bridge.z;
        bridge.z = v;
        return was;
    }

    // ---- texts

    public int feed(int bytes, int n) {
        if (n < 1 || n > 4) {
            return tell(BEYOND);
        }
        if (reader.size + n > TAPE_SIZE) {
            return tell(FULL);
        }
        for (int i = n - 1; i >= 0; i--) {
            reader.put(bytes >>> (8 * i) & 255);
        }
        return reader.size;
    }

    public int wipe() {
        int had = reader.size;
        reader.size = 0;
        return had;
    }

    public int text() {
        // A draft takes the items, so that a late FAULT leaves the bridge as it was.
        draft.become(bridge);
        int items = reader.read(draft);
        reader.size = 0;
        if (items >= 0) {
            bridge.become(draft);
        }
        return items;
    }

    // ---- spots, sheets

    public int hold(int spot, int walker) {
        if (!isSpot(spot) || (walker != NOBODY && !bridge.has(walker))) {
            return tell(BEYOND);
        }
        bridge.spots[spot] = walker;
        return 1;
    }

    public int as(int spot, int kind) {
        if (!isSpot(spot) || !isKind(kind)) {
            return tell(BEYOND);
        }
        int walker = bridge.spots[spot];
        if (!bridge.has(walker)) {
            return tell(MISSING);
        }
        return Kinds.isUnder(bridge.kinds[walker], kind) ? walker : tell(KIND);
    }

    public int sheet(int s, int bits, int n) {
        if (!isSheet(s) || (bits != 0 && bits != 8 && bits != 16 && bits != 32)) {
            return tell(BEYOND);
        }
        if (n < 0) {
            return tell(SIZE);
        }
        if (n > SHEET_SIZE) {
            return tell(BEYOND);
        }
        sheets.renew(s, bits, bits == 0 ? 0 : n);
        return sheets.sizes[s];
    }

    public int write(int s, int i, int v) {
        int finding = sheets.finding(s);
        if (finding != 0) {
            return tell(finding);
        }
        if (i < 0 || i >= sheets.sizes[s]) {
            return tell(BEYOND);
        }
        sheets.put(s, i, v);
        return 1;
    }

    public int copy(int s, int from, int t, int to, int n) {
        if (!isSheet(s) || !isSheet(t)) {
            return tell(BEYOND);
        }
        if (sheets.finding(s) != 0 || sheets.finding(t) != 0) {
            return tell(MISSING);
        }
        if (sheets.bits[s] != sheets.bits[t]) {
            return tell(KIND);
        }
        if (!sheets.hasPart(s, from, n) || !sheets.hasPart(t, to, n)) {
            return tell(BEYOND);
        }
        System.arraycopy(sheets.numbers[s], from, sheets.numbers[t], to, n);
        return n;
    }

    public int load(int s) {
        int finding = sheets.finding(s);
        if (finding != 0) {
            return tell(finding);
        }
        int came = 0;
        while (came < PLANKS && came < sheets.sizes[s] && isGait(sheets.numbers[s][came])) {
            bridge.keeps[came] = sheets.numbers[s][came];
            came++;
        }
        return came;
    }

    public int judge(int s) {
        int finding = sheets.finding(s);
        if (finding != 0) {
            return tell(finding);
        }
        int crossed = 0;
        walk.layRow(bridge.keeps);
        for (int i = 0; i < sheets.sizes[s]; i++) {
            int walker = sheets.numbers[s][i];
            if (!bridge.has(walker) || isIn(crossed, walker)) {
                return 1 + i;
            }
            walk.become(bridge, walker);
            if (walk.go(walk.row) < PLANKS) {
                return 1 + i;
            }
            crossed |= 1 << walker;
        }
        return 0;
    }

    // ---- images

    public int image() {
        kept.become(bridge);
        isKept = true;
        return 1;
    }

    public int undo() {
        if (!isKept) {
            return tell(NONE);
        }
        bridge.become(kept);
        return bridge.crossings;
    }

    public int tear() {
        int was = isKept ? 1 : 0;
        isKept = false;
        return was;
    }

    public int count(int what) {
        switch (what) {
            case 0:
                return bridge.crossings;
            case 1:
                return bridge.walkers;
            case 2:
                return sum(bridge.falls, bridge.walkers);
            case 3:
                return sum(bridge.gaits, bridge.walkers);
            case 4:
                return sum(bridge.keeps, PLANKS);
            case 5:
                return reader.size;
            case 6:
                return bridge.z;
            case 7:
                return bridge.heldSpots();
            default:
                return tell(BEYOND);
        }
    }

    public int status(int which) {
        if (which == -1) {
            return sum(found, FINDINGS);
        }
        return which >= 0 && which < FINDINGS ? found[which] : tell(BEYOND);
    }

    // ---- what the acts share

    private int tell(int finding) {
        int which = BEYOND - finding;
        if (which >= 0 && which < FINDINGS) {
            found[which]++;
        }
        return finding;
    }

    private static boolean isPlank(int plank) {
        return plank >= 0 && plank < PLANKS;
    }

    private static boolean isGait(int v) {
        return v >= 0 && v <= TOP;
    }

    private static boolean isKind(int kind) {
        return kind >= WALKER && kind <= CARRIED;
    }

    private static boolean isSpot(int spot) {
        return spot >= 0 && spot < SPOTS;
    }

    private static boolean isSheet(int s) {
        return s >= 0 && s < SHEETS;
    }

    private static boolean isIn(int set, int member) {
        return (set >> member & 1) != 0;
    }

    private static int held(int gait) {
        return Math.max(0, Math.min(TOP, gait));
    }

    private static int sum(int[] row, int many) {
        int all = 0;
        for (int i = 0; i < many && i < row.length; i++) {
            all += row[i];
        }
        return all;
    }

    private static int replace(int[] row, int i, int v) {
        if (i < 0 || i >= row.length) {
            return 0;
        }
        int was = row[i];
        row[i] = v;
        return was;
    }

    private int reallyCross(int walker) {
        if (!bridge.has(walker)) {
            return PLANKS;
        }
        walk.become(bridge, walker);
        int place = walk.go(bridge.keeps);
        bridge.gaits[walker] = walk.gait;
        if (place < PLANKS) {
            bridge.falls[walker] = Math.min(MOST_FELL, bridge.falls[walker] + 1);
        }
        bridge.crossings++;
        return place;
    }

    private int fallers() {
        int set = 0;
        for (int w = 0; w < bridge.walkers; w++) {
            if (tryWalk(w) < PLANKS) {
                set |= 1 << w;
            }
        }
        return set;
    }

    private void prepare(int walker) {
        walk.become(bridge, walker);
        walk.layRow(bridge.keeps);
    }

    private int tryWalk(int walker) {
        prepare(walker);
        return walk.go(walk.row);
    }

    private int tryGait(int walker, int gait) {
        prepare(walker);
        walk.gait = gait;
        return walk.go(walk.row);
    }

    private boolean crossesLaid(int walker, int laid) {
        prepare(walker);
        for (int plank = 0; plank < PLANKS; plank++) {
            if (isIn(laid, plank)) {
                walk.row[plank] = NEW_PLANK;
            }
        }
        return walk.go(walk.row) == PLANKS;
    }

    /** Tries the highest plank first, from the least on: so sets of one size come by their numbers. */
    private int layMore(int walker, int set, int below, int more) {
        if (more <= 0) {
            return crossesLaid(walker, set) ? set : -1;
        }
        for (int plank = 0; plank < below; plank++) {
            int whole = layMore(walker, set | 1 << plank, plank, more - 1);
            if (whole >= 0) {
                return whole;
            }
        }
        return -1;
    }

    private int difference(int a, int b) {
        tryWalk(a);
        System.arraycopy(walk.row, 0, otherRow, 0, PLANKS);
        tryWalk(b);
        int all = 0;
        for (int plank = 0; plank < PLANKS; plank++) {
            all += Math.abs(walk.row[plank] - otherRow[plank]);
        }
        return all;
    }

    /** 0 if there is nothing to tell. */
    private int swayFinding(int s, int walker) {
        int finding = sheets.finding(s);
        if (finding != 0) {
            return finding;
        }
        if (!bridge.has(walker)) {
            return BEYOND;
        }
        return sheets.sizes[s] > PLANKS ? STATE : 0;
    }

    private static int commonDivisor(int a, int b) {
        int greater = a;
        int rest = b;
        for (int i = 0; i < PLANKS && rest > 0; i++) {
            int next = greater % rest;
            greater = rest;
            rest = next;
        }
        return greater;
    }

    private static long power(long base, int n) {
        long product = 1;
        for (int i = 0; i < n; i++) {
            product *= base;
        }
        return product;
    }

    /** What the kinds do differently. */
    private static final class Kinds {
        static int bears(int kind, int balance, int night) {
            switch (kind) {
                case DRUNK:
                    return balance / 2;
                case CARRIED:
                    return balance / 2 + 40;
                case MARCHER:
                    return Math.max(0, balance - 10);
                case DANCER:
                    return Math.max(0, balance - 10) + 20;
                case MOURNER:
                    return night == 1 ? TOP : Math.max(0, balance - 10) + 20;
                case CALM:
                    return TOP;
                default:
                    return balance;
            }
        }

        /** How much more its gait becomes on a plank. */
        static int sway(int kind, int gait, int plank) {
            int more = plank - gait;
            switch (kind) {
                case DRUNK:
                    return more / 2;
                case CARRIED:
                case MARCHER:
                    return 0;
                case DANCER:
                    return more / 10 + 1;
                case MOURNER:
                    return more / 10 - 1;
                case CALM:
                    return Math.max(-5, Math.min(5, CALM_GAIT - gait));
                default:
                    return more / 4;
            }
        }

        static int footprint(int kind, int gait, int plank) {
            switch (kind) {
                case DRUNK:
                    return gait + 5;
                case MARCHER:
                    return (gait + plank) / 2;
                case DANCER:
                case MOURNER:
                    return (gait + plank) / 2 + 3;
                case CALM:
                    return CALM_GAIT;
                default:
                    return gait;
            }
        }

        static boolean isUnder(int kind, int wanted) {
            int each = kind;
            for (int i = 0; i < KIND_ABOVE.length && isKind(each); i++) {
                if (each == wanted) {
                    return true;
                }
                each = KIND_ABOVE[each];
            }
            return false;
        }
    }

    /** All that an image keeps. */
    private static final class Bridge {
        final int[] keeps = new int[PLANKS];
        final int[] kinds = new int[WALKERS];
        final int[] gaits = new int[WALKERS];
        final int[] balances = new int[WALKERS];
        final int[] falls = new int[WALKERS];
        final int[] spots = new int[SPOTS];
        int walkers = 0;
        int night = 0;
        int crossings = 0;
        int z = 1;

        Bridge() {
            for (int i = 0; i < PLANKS; i++) {
                keeps[i] = NEW_PLANK;
            }
            for (int i = 0; i < SPOTS; i++) {
                spots[i] = NOBODY;
            }
        }

        void become(Bridge other) {
            System.arraycopy(other.keeps, 0, keeps, 0, PLANKS);
            System.arraycopy(other.kinds, 0, kinds, 0, WALKERS);
            System.arraycopy(other.gaits, 0, gaits, 0, WALKERS);
            System.arraycopy(other.balances, 0, balances, 0, WALKERS);
            System.arraycopy(other.falls, 0, falls, 0, WALKERS);
            System.arraycopy(other.spots, 0, spots, 0, SPOTS);
            walkers = other.walkers;
            night = other.night;
            crossings = other.crossings;
            z = other.z;
        }

        boolean has(int walker) {
            return walker >= 0 && walker < walkers && walker < WALKERS;
        }

        boolean hasAll(int set) {
            return set >= 0 && set < 1 << walkers;
        }

        boolean isFull() {
            return walkers >= WALKERS;
        }

        int add(int kind, int gait, int balance) {
            if (walkers < 0 || isFull()) {
                return NOBODY;
            }
            kinds[walkers] = kind;
            gaits[walkers] = gait;
            balances[walkers] = balance;
            falls[walkers] = 0;
            walkers++;
            return walkers - 1;
        }

        int bears(int walker) {
            return has(walker) ? Kinds.bears(kinds[walker], balances[walker], night) : 0;
        }

        /** The planks on which one would fall, if it stood there. */
        int unfit(int walker) {
            if (!has(walker)) {
                return 0;
            }
            int bears = bears(walker);
            int set = 0;
            for (int i = 0; i < PLANKS; i++) {
                if (Math.abs(gaits[walker] - keeps[i]) > bears) {
                    set |= 1 << i;
                }
            }
            return set;
        }

        int draw() {
            z = z * 1103515245 + 12345;
            return z >>> 8;
        }

        int heldSpots() {
            int many = 0;
            for (int i = 0; i < SPOTS; i++) {
                if (spots[i] != NOBODY) {
                    many++;
                }
            }
            return many;
        }
    }

    /** One on its way over a row of planks; nothing of it reaches the bridge by itself. */
    private static final class Walk {
        final int[] row = new int[PLANKS];
        int kind = WALKER;
        int gait = NEW_GAIT;
        int balance = NEW_BALANCE;
        int night = 0;

        void become(Bridge bridge, int walker) {
            if (bridge.has(walker)) {
                kind = bridge.kinds[walker];
                gait = bridge.gaits[walker];
                balance = bridge.balances[walker];
                night = bridge.night;
            }
        }

        void layRow(int[] keeps) {
            for (int i = 0; i < PLANKS && i < keeps.length; i++) {
                row[i] = keeps[i];
            }
        }

        /** The plank on which it falls, or PLANKS; changes the row and the gait. */
        int go(int[] planks) {
            int ahead = gait;
            int bears = Kinds.bears(kind, balance, night);
            for (int i = 0; i < PLANKS && i < planks.length; i++) {
                int plank = planks[i];
                if (Math.abs(gait - plank) > bears) {
                    gait = ahead;
                    return i;
                }
                planks[i] = held(Kinds.footprint(kind, gait, plank));
                gait = held(gait + Kinds.sway(kind, gait, plank));
            }
            return PLANKS;
        }
    }

    /** Orders in which walkers cross, tried by who is first, then second, and so on. */
    private static final class Queue {
        final Bridge bridge = new Bridge();
        final Walk walk = new Walk();
        final int[][] rows = new int[WALKERS + 1][PLANKS];
        final int[] places = new int[WALKERS];

        boolean findOrder(Bridge now, int set) {
            begin(now);
            return findFirst(set, 0);
        }

        int countOrders(Bridge now, int set) {
            begin(now);
            return countSafe(set, 0);
        }

        int countFalls(Bridge now, int set) {
            begin(now);
            return fewestFalls(set, 0);
        }

        int findGreatest(Bridge now) {
            begin(now);
            return greatest(0, 0, 0);
        }

        int placed(int place) {
            return place >= 0 && place < WALKERS ? places[place] : NOBODY;
        }

        private void begin(Bridge now) {
            bridge.become(now);
            System.arraycopy(bridge.keeps, 0, rows[0], 0, PLANKS);
        }

        /** Row depth + 1 becomes what one leaves who finds row depth. */
        private boolean crosses(int walker, int depth) {
            if (depth < 0 || depth >= WALKERS) {
                return false;
            }
            System.arraycopy(rows[depth], 0, rows[depth + 1], 0, PLANKS);
            walk.become(bridge, walker);
            return walk.go(rows[depth + 1]) == PLANKS;
        }

        private boolean findFirst(int left, int depth) {
            if (left == 0 || depth >= WALKERS) {
                return true;
            }
            for (int w = 0; w < WALKERS; w++) {
                if (isIn(left, w) && crosses(w, depth)) {
                    places[depth] = w;
                    if (findFirst(left & ~(1 << w), depth + 1)) {
                        return true;
                    }
                }
            }
            return false;
        }

        private int countSafe(int left, int depth) {
            if (left == 0 || depth >= WALKERS) {
                return 1;
            }
            int many = 0;
            for (int w = 0; w < WALKERS; w++) {
                if (isIn(left, w) && crosses(w, depth)) {
                    many += countSafe(left & ~(1 << w), depth + 1);
                }
            }
            return many;
        }

        private int fewestFalls(int left, int depth) {
            if (left == 0 || depth >= WALKERS) {
                return 0;
            }
            int least = WALKERS;
            for (int w = 0; w < WALKERS && least > 0; w++) {
                if (isIn(left, w)) {
                    int own = crosses(w, depth) ? 0 : 1;
                    least = Math.min(least, own + fewestFalls(left & ~(1 << w), depth + 1));
                }
            }
            return least;
        }

        private int greatest(int crossed, int sofar, int depth) {
            int great = greater(crossed, sofar);
            if (depth >= WALKERS) {
                return great;
            }
            // Nothing is greater than all of them.
            int all = (1 << bridge.walkers) - 1;
            for (int w = 0; w < bridge.walkers && great != all; w++) {
                if (!isIn(crossed, w) && crosses(w, depth)) {
                    great = greatest(crossed | 1 << w, great, depth + 1);
                }
            }
            return great;
        }

        private static int greater(int a, int b) {
            int more = Integer.bitCount(a) - Integer.bitCount(b);
            return more > 0 || (more == 0 && a < b) ? a : b;
        }
    }

    /** The tape, and what reads a text from it. */
    private static final class Reader {
        private static final int BLANK = 0;
        private static final int WORD = 1;
        private static final int NUMBER = 2;
        private static final int SIGN = 3;
        private static final int ALIEN = 4;
        private static final int END = 5;

        // The words of the kinds bear the numbers of the kinds.
        private static final int PLANK_WORD = 7;
        private static final int NEW_WORD = 8;
        private static final int NIGHT_WORD = 9;
        private static final int DAY_WORD = 10;
        private static final int GAIT_WORD = 11;
        private static final int BALANCE_WORD = 12;
        private static final int OTHER_WORD = 13;

        private static final int TOO_MUCH = 1000;
        private static final int MOST_TOKENS = TAPE_SIZE + 1;

        final int[] tape = new int[TAPE_SIZE];
        int size = 0;

        final int[] sorts = new int[MOST_TOKENS];
        final int[] starts = new int[MOST_TOKENS];
        final int[] ends = new int[MOST_TOKENS];
        final int[] values = new int[MOST_TOKENS];
        int tokens = 0;

        int at = 0;
        int sort = END;
        int value = 0;

        void put(int v) {
            if (size >= 0 && size < TAPE_SIZE) {
                tape[size] = v;
                size++;
            }
        }

        /** How many items there are, or -1 less the FAULT; a draft takes them. */
        int read(Bridge draft) {
            split();
            nameWords();
            look(0);
            for (int items = 1; items < MOST_TOKENS; items++) {
                if (!readItem(draft)) {
                    return -1 - place();
                }
                if (sort == END) {
                    return items;
                }
                if (sort != SIGN) {
                    return -1 - place();
                }
                look(at + 1);
            }
            return -1 - place();
        }

        /** Where the token that is looked at begins: there is the FAULT, if it can't stand there. */
        int place() {
            return at >= 0 && at < tokens ? starts[at] : size;
        }

        void look(int token) {
            at = token;
            boolean isThere = token >= 0 && token < tokens && token < MOST_TOKENS;
            sort = isThere ? sorts[token] : END;
            value = isThere ? values[token] : 0;
        }

        boolean readItem(Bridge draft) {
            if (sort != WORD) {
                return false;
            }
            switch (value) {
                case PLANK_WORD:
                    return readPlank(draft);
                case NEW_WORD:
                    return readNew(draft);
                case NIGHT_WORD:
                    draft.night = 1;
                    look(at + 1);
                    return true;
                case DAY_WORD:
                    draft.night = 0;
                    look(at + 1);
                    return true;
                default:
                    return readWalker(draft);
            }
        }

        boolean readWalker(Bridge draft) {
            if (!isKind(value) || draft.isFull()) {
                return false;
            }
            int kind = value;
            int gait = NEW_GAIT;
            int balance = NEW_BALANCE;
            look(at + 1);
            if (isWord(GAIT_WORD)) {
                look(at + 1);
                if (!isNumber(TOP)) {
                    return false;
                }
                gait = value;
                look(at + 1);
            }
            if (isWord(BALANCE_WORD)) {
                look(at + 1);
                if (!isNumber(TOP)) {
                    return false;
                }
                balance = value;
                look(at + 1);
            }
            draft.add(kind, gait, balance);
            return true;
        }

        boolean readPlank(Bridge draft) {
            look(at + 1);
            if (!isNumber(PLANKS - 1)) {
                return false;
            }
            int plank = value;
            look(at + 1);
            if (!isNumber(TOP)) {
                return false;
            }
            draft.keeps[plank] = value;
            look(at + 1);
            return true;
        }

        boolean readNew(Bridge draft) {
            look(at + 1);
            if (!isNumber(PLANKS - 1)) {
                return false;
            }
            draft.keeps[value] = NEW_PLANK;
            look(at + 1);
            return true;
        }

        boolean isWord(int word) {
            return sort == WORD && value == word;
        }

        boolean isNumber(int most) {
            return sort == NUMBER && value >= 0 && value <= most;
        }

        void split() {
            tokens = 0;
            int before = BLANK;
            for (int i = 0; i < size && i < TAPE_SIZE; i++) {
                int now = sortOf(tape[i]);
                boolean goesOn = now == before && (now == WORD || now == NUMBER);
                if (now != BLANK && !goesOn) {
                    begin(now, i);
                }
                if (now != BLANK) {
                    grow(tape[i]);
                }
                before = now;
            }
            begin(END, size);
        }

        static int sortOf(int v) {
            if (v >= 'a' && v <= 'z') {
                return WORD;
            }
            if (v >= '0' && v <= '9') {
                return NUMBER;
            }
            if (v == ';') {
                return SIGN;
            }
            return v == ' ' ? BLANK : ALIEN;
        }

        void begin(int newSort, int start) {
            if (tokens >= 0 && tokens < MOST_TOKENS) {
                sorts[tokens] = newSort;
                starts[tokens] = start;
                ends[tokens] = start;
                values[tokens] = 0;
                tokens++;
            }
        }

        void grow(int v) {
            int last = tokens - 1;
            if (last >= 0 && last < MOST_TOKENS) {
                ends[last]++;
                if (sorts[last] == NUMBER) {
                    // Held, so that many digits can't wrap around to a small number.
                    values[last] = Math.min(TOO_MUCH, values[last] * 10 + v - '0');
                }
            }
        }

        void nameWords() {
            for (int i = 0; i < tokens && i < MOST_TOKENS; i++) {
                if (sorts[i] == WORD) {
                    values[i] = wordNumber(starts[i], ends[i]);
                }
            }
        }

        int wordNumber(int start, int end) {
            if (spells(start, end, "walker")) {
                return WALKER;
            }
            if (spells(start, end, "drunk")) {
                return DRUNK;
            }
            if (spells(start, end, "marcher")) {
                return MARCHER;
            }
            if (spells(start, end, "dancer")) {
                return DANCER;
            }
            if (spells(start, end, "mourner")) {
                return MOURNER;
            }
            if (spells(start, end, "calm")) {
                return CALM;
            }
            if (spells(start, end, "carried")) {
                return CARRIED;
            }
            if (spells(start, end, "plank")) {
                return PLANK_WORD;
            }
            if (spells(start, end, "new")) {
                return NEW_WORD;
            }
            if (spells(start, end, "night")) {
                return NIGHT_WORD;
            }
            if (spells(start, end, "day")) {
                return DAY_WORD;
            }
            if (spells(start, end, "gait")) {
                return GAIT_WORD;
            }
            return spells(start, end, "balance") ? BALANCE_WORD : OTHER_WORD;
        }

        boolean spells(int start, int end, String word) {
            if (start < 0 || end > TAPE_SIZE || end - start != word.length()) {
                return false;
            }
            for (int i = 0; i < word.length(); i++) {
                if (tape[start + i] != word.charAt(i)) {
                    return false;
                }
            }
            return true;
        }
    }

    /** Rows of numbers that stand already cut to their bits. */
    private static final class Sheets {
        final int[][] numbers = new int[SHEETS][SHEET_SIZE];
        final int[] bits = new int[SHEETS];
        final int[] sizes = new int[SHEETS];

        /** BEYOND, MISSING, or 0 if there is such a sheet. */
        int finding(int s) {
            if (!isSheet(s)) {
                return BEYOND;
            }
            return bits[s] == 0 ? MISSING : 0;
        }

        void renew(int s, int newBits, int n) {
            if (isSheet(s) && n >= 0 && n <= SHEET_SIZE) {
                bits[s] = newBits;
                sizes[s] = n;
                for (int i = 0; i < SHEET_SIZE; i++) {
                    numbers[s][i] = 0;
                }
            }
        }

        void put(int s, int i, int v) {
            if (isSheet(s) && i >= 0 && i < SHEET_SIZE) {
                numbers[s][i] = bits[s] == 8 ? (byte) v : bits[s] == 16 ? (short) v : v;
            }
        }

        boolean hasPart(int s, int from, int n) {
            return isSheet(s) && from >= 0 && n >= 0 && n <= sizes[s] && from <= sizes[s] - n;
        }

        /** Whether a row of planks keeps what the sheet's numbers ask. */
        boolean tells(int s, int[] row) {
            if (!isSheet(s) || sizes[s] > row.length) {
                return false;
            }
            for (int i = 0; i < sizes[s]; i++) {
                if (numbers[s][i] != ANY && numbers[s][i] != row[i]) {
                    return false;
                }
            }
            return true;
        }
    }
}
