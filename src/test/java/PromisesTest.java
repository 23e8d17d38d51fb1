/** Each promise of the document by answers worked out by hand: ordinary inputs, edges, wrong inputs. */
public final class PromisesTest {
    private static final int BEYOND = Due.BEYOND;
    private static final int FULL = Due.FULL;
    private static final int KIND = Due.KIND;
    private static final int NONE = Due.NONE;
    private static final int STATE = Due.STATE;
    private static final int MISSING = Due.MISSING;
    private static final int SIZE = Due.SIZE;
    private static final int LEAST = Integer.MIN_VALUE;
    private static final int GREATEST = Integer.MAX_VALUE;

    public static void main(String[] args) {
        planksAndWalkers();
        crossings();
        whatWouldBe();
        orders();
        laidPlanks();
        takenAndSwayed();
        strangers();
        texts();
        spotsAndSheets();
        images();
        Due.end();
    }

    private static void due(String call, long got, long want) {
        Due.due(call, got, want);
    }

    private static FeetBridge with(int... kindsAndGaits) {
        FeetBridge x = new FeetBridge();
        for (int i = 0; i + 1 < kindsAndGaits.length; i += 2) {
            x.walker(kindsAndGaits[i], kindsAndGaits[i + 1]);
        }
        return x;
    }

    private static void planksAndWalkers() {
        newObject();
        plank();
        keeps();
        walker();
        of();
        change();
        night();
    }

    private static void newObject() {
        Due.part("promise 1");
        FeetBridge x = new FeetBridge();
        Due.dueRow("new", x, 50);
        int[] counts = {0, 0, 0, 0, 600, 0, 1, 0};
        for (int i = 0; i < counts.length; i++) {
            due("count(" + i + ")", x.count(i), counts[i]);
        }
        int[] nows = {0, 600, 0, 0, 0, 0};
        for (int i = 0; i < nows.length; i++) {
            due("now(" + i + ")", x.now(i), nows[i]);
        }
        due("tear()", x.tear(), 0);
        due("status(-1)", x.status(-1), 0);
        for (int i = 0; i < 7; i++) {
            due("status(" + i + ")", x.status(i), 0);
        }
        for (int s = 0; s < 4; s++) {
            due("load(" + s + ")", x.load(s), MISSING);
        }
        for (int spot = 0; spot < 10; spot++) {
            due("as(" + spot + ", 0)", x.as(spot, 0), MISSING);
        }
        due("undo()", x.undo(), NONE);
        due("text()", x.text(), -1);
    }

    private static void plank() {
        Due.part("promise 2");
        FeetBridge x = new FeetBridge();
        due("plank(0, 99)", x.plank(0, 99), 50);
        due("plank(0, 0)", x.plank(0, 0), 99);
        due("plank(11, 7)", x.plank(11, 7), 50);
        due("plank(-1, 5)", x.plank(-1, 5), BEYOND);
        due("plank(12, 5)", x.plank(12, 5), BEYOND);
        due("plank(3, -1)", x.plank(3, -1), BEYOND);
        due("plank(3, 100)", x.plank(3, 100), BEYOND);
        due("plank(least, greatest)", x.plank(LEAST, GREATEST), BEYOND);
        Due.dueRow("behind that", x, 0, 50, 50, 50, 50, 50, 50, 50, 50, 50, 50, 7);
    }

    private static void keeps() {
        Due.part("promise 3");
        FeetBridge x = new FeetBridge();
        x.plank(4, 33);
        due("keeps(4)", x.keeps(4), 33);
        due("keeps(5)", x.keeps(5), 50);
        due("keeps(11)", x.keeps(11), 50);
        due("keeps(-1)", x.keeps(-1), BEYOND);
        due("keeps(12)", x.keeps(12), BEYOND);
    }

    private static void walker() {
        Due.part("promise 4");
        FeetBridge x = new FeetBridge();
        due("walker(-1, 0)", x.walker(-1, 0), BEYOND);
        due("walker(7, 0)", x.walker(7, 0), BEYOND);
        due("walker(0, -1)", x.walker(0, -1), BEYOND);
        due("walker(0, 100)", x.walker(0, 100), BEYOND);
        due("count(1)", x.count(1), 0);
        for (int i = 0; i < 6; i++) {
            due("walker", x.walker(i + 1, i == 5 ? 99 : i), i);
        }
        due("of(5, 0)", x.of(5, 0), 6);
        due("of(5, 1)", x.of(5, 1), 99);
        due("of(5, 2)", x.of(5, 2), 30);
        due("of(5, 3)", x.of(5, 3), 0);
        due("walker(0, 0)", x.walker(0, 0), FULL);
        due("walker(7, 0)", x.walker(7, 0), BEYOND);
        due("count(1)", x.count(1), 6);
    }

    private static void of() {
        Due.part("promise 5");
        int[] at30 = {30, 15, 20, 40, 40, 99, 55};
        int[] at99 = {99, 49, 89, 109, 109, 99, 89};
        int[] at9 = {9, 4, 0, 20, 20, 99, 44};
        for (int kind = 0; kind < 7; kind++) {
            FeetBridge x = with(kind, 50);
            due("bears of " + kind, x.of(0, 4), at30[kind]);
            x.change(0, 2, 99);
            due("bears of " + kind + " with 99", x.of(0, 4), at99[kind]);
            x.change(0, 2, 9);
            due("bears of " + kind + " with 9", x.of(0, 4), at9[kind]);
            x.night(1);
            due("bears of " + kind + " at night", x.of(0, 4), kind == 4 ? 99 : at9[kind]);
        }
        FeetBridge x = with(0, 50);
        Due.keepAll(x, 80, 81, 20, 19, 50);
        due("of(0, 5)", x.of(0, 5), 2 + 8);
        x.plank(11, 99);
        due("of(0, 5)", x.of(0, 5), 2 + 8 + 2048);
        due("of(0, 0)", x.of(0, 0), 0);
        due("of(0, 1)", x.of(0, 1), 50);
        due("of(0, -1)", x.of(0, -1), BEYOND);
        due("of(0, 6)", x.of(0, 6), BEYOND);
        due("of(1, 0)", x.of(1, 0), BEYOND);
        due("of(-1, 0)", x.of(-1, 0), BEYOND);
    }

    private static void change() {
        Due.part("promise 6");
        FeetBridge x = with(0, 50);
        int[] most = {6, 99, 99, 9999};
        int[] first = {0, 50, 30, 0};
        for (int what = 0; what < 4; what++) {
            due("change to the most", x.change(0, what, most[what]), first[what]);
            due("change to one more", x.change(0, what, most[what] + 1), BEYOND);
            due("change to -1", x.change(0, what, -1), BEYOND);
            due("of", x.of(0, what), most[what]);
            due("change to 0", x.change(0, what, 0), most[what]);
            due("of", x.of(0, what), 0);
        }
        due("change(0, 4, 0)", x.change(0, 4, 0), BEYOND);
        due("change(0, -1, 0)", x.change(0, -1, 0), BEYOND);
        due("change(1, 0, 0)", x.change(1, 0, 0), BEYOND);
        due("change(-1, 0, 0)", x.change(-1, 0, 0), BEYOND);
    }

    private static void night() {
        Due.part("promise 7");
        FeetBridge x = new FeetBridge();
        due("night(1)", x.night(1), 0);
        due("night(2)", x.night(2), BEYOND);
        due("night(-1)", x.night(-1), BEYOND);
        due("night(1)", x.night(1), 1);
        due("night(0)", x.night(0), 1);
        due("now(3)", x.now(3), 0);
    }

    private static void crossings() {
        stepsOfKinds();
        heldGaits();
        falls();
        crowd();
        now();
        mostCrossings();
    }

    private static void crossed(int kind, int gait, int becomes, int... row) {
        FeetBridge x = with(kind, gait);
        due("cross of " + kind, x.cross(0), 12);
        due("gait of " + kind, x.of(0, 1), becomes);
        due("fell of " + kind, x.of(0, 3), 0);
        due("crossings", x.now(0), 1);
        Due.dueRow("cross of " + kind, x, row);
    }

    private static void stepsOfKinds() {
        Due.part("promise 8");
        crossed(0, 50, 50, 50);
        crossed(0, 70, 53, 70, 65, 62, 59, 57, 56, 55, 54, 53);
        crossed(0, 31, 47, 31, 35, 38, 41, 43, 44, 45, 46, 47);
        crossed(1, 60, 51, 65, 60, 58, 57, 56);
        crossed(1, 40, 49, 45, 50, 52, 53, 54);
        crossed(2, 61, 61, 55);
        crossed(3, 50, 60, 53, 53, 54, 54, 55, 55, 56, 56, 57, 57, 58);
        crossed(4, 50, 40, 53, 52, 52, 51, 51, 50, 50, 49, 49, 48);
        crossed(5, 33, 20, 20);
        crossed(5, 99, 39, 20);
        crossed(5, 0, 20, 20);
        crossed(5, 84, 24, 20);
        crossed(5, 78, 20, 20);
        crossed(6, 77, 77, 77);
        crossed(6, 0, 0, 0);
    }

    private static void heldGaits() {
        FeetBridge x = with(1, 97, 3, 99, 4, 0);
        Due.keepAll(x, 97);
        due("cross(0)", x.cross(0), 12);
        Due.dueRow("drunk", x, 99);
        due("cross(1)", x.cross(1), 12);
        due("of(1, 1)", x.of(1, 1), 99);
        Due.dueRow("dancer", x, 99);
        Due.keepAll(x, 0);
        due("cross(2)", x.cross(2), 12);
        due("of(2, 1)", x.of(2, 1), 0);
        Due.dueRow("mourner", x, 3);
    }

    private static void falls() {
        FeetBridge x = with(0, 50);
        Due.keepAll(x, 60, 50, 50, 83, 40);
        // Gaits ahead of the planks: 50, 52, 52, 52; 31 apart from 83.
        due("cross(0)", x.cross(0), 3);
        due("of(0, 1)", x.of(0, 1), 50);
        due("of(0, 3)", x.of(0, 3), 1);
        Due.dueRow("fell", x, 50, 52, 52, 83, 40);
        due("now(0)", x.now(0), 1);
        x.plank(3, 82);
        Due.keepAll(x, 60, 50, 50, 82, 40);
        due("cross(0)", x.cross(0), 12);
        due("of(0, 3)", x.of(0, 3), 1);
        due("now(0)", x.now(0), 2);
        x.plank(0, 0);
        due("cross(0)", x.cross(0), 0);
        x.change(0, 3, 9999);
        due("cross(0)", x.cross(0), 0);
        due("of(0, 3)", x.of(0, 3), 9999);
        due("now(0)", x.now(0), 4);
        due("cross(1)", x.cross(1), BEYOND);
        due("cross(-1)", x.cross(-1), BEYOND);
        due("now(0)", x.now(0), 4);
    }

    private static void crowd() {
        Due.part("promise 9");
        FeetBridge x = with(6, 80, 0, 50, 5, 20);
        due("crowd(8)", x.crowd(8), BEYOND);
        due("crowd(-1)", x.crowd(-1), BEYOND);
        due("crowd(least)", x.crowd(LEAST), BEYOND);
        due("now(0)", x.now(0), 0);
        due("crowd(0)", x.crowd(0), 0);
        // 80 everywhere behind the first; 50 bears just 30.
        due("crowd(3)", x.crowd(3), 0);
        due("now(0)", x.now(0), 2);
        due("crowd(4)", x.crowd(4), 0);
        Due.dueRow("calm", x, 20);
        // 0 and 1 are still near 80, and the planks keep 20.
        due("crowd(7)", x.crowd(7), 2);
        due("of(0, 3)", x.of(0, 3), 1);
        due("now(0)", x.now(0), 6);
    }

    private static void now() {
        Due.part("promise 10");
        FeetBridge x = with(0, 50, 1, 50, 5, 7);
        x.plank(2, 70);
        x.night(1);
        x.change(0, 3, 11);
        x.change(2, 3, 5);
        due("now(1)", x.now(1), 620);
        due("now(2)", x.now(2), 2);
        x.plank(2, 81);
        due("now(2)", x.now(2), 3);
        x.plank(2, 70);
        due("now(3)", x.now(3), 1);
        due("now(4)", x.now(4), 16);
        due("now(5)", x.now(5), 107);
        due("now(0)", x.now(0), 0);
        due("now(-1)", x.now(-1), BEYOND);
        due("now(6)", x.now(6), BEYOND);
    }

    /** So many crossings need more calls than are promised; the limit is held all the same. */
    private static void mostCrossings() {
        Due.part("promises 8 and 9");
        FeetBridge x = with(5, 20, 5, 20, 5, 20, 5, 20, 5, 20, 5, 20);
        for (int i = 0; i < 16666; i++) {
            x.crowd(63);
        }
        due("now(0)", x.now(0), 99996);
        due("crowd(15)", x.crowd(15), STATE);
        due("crowd(64)", x.crowd(64), BEYOND);
        due("now(0)", x.now(0), 99996);
        due("crowd(3)", x.crowd(3), 0);
        due("cross(0)", x.cross(0), 12);
        due("cross(0)", x.cross(0), STATE);
        due("cross(6)", x.cross(6), BEYOND);
        due("crowd(1)", x.crowd(1), STATE);
        due("crowd(0)", x.crowd(0), 0);
        due("now(0)", x.now(0), 99999);
        due("would(0)", x.would(0), 12);
    }

    private static void whatWouldBe() {
        wouldBecomesLeaves();
        after();
        often();
        whatLetsOneCross();
    }

    private static void wouldBecomesLeaves() {
        FeetBridge x = with(0, 70, 1, 50, 0, 50);
        x.plank(4, 90);
        Due.part("promise 11");
        due("would(0)", x.would(0), 4);
        due("would(1)", x.would(1), 4);
        x.plank(4, 50);
        due("would(0)", x.would(0), 12);
        due("would(3)", x.would(3), BEYOND);
        due("would(-1)", x.would(-1), BEYOND);
        Due.part("promise 12");
        due("becomes(0)", x.becomes(0), 53);
        due("becomes(1)", x.becomes(1), 50);
        x.plank(11, 99);
        due("becomes(0)", x.becomes(0), 70);
        due("becomes(3)", x.becomes(3), BEYOND);
        due("becomes(-1)", x.becomes(-1), BEYOND);
        Due.part("promise 13");
        due("leaves(0, 0)", x.leaves(0, 0), 70);
        due("leaves(0, 3)", x.leaves(0, 3), 59);
        due("leaves(0, 11)", x.leaves(0, 11), 99);
        due("leaves(1, 0)", x.leaves(1, 0), 55);
        due("leaves(0, 12)", x.leaves(0, 12), BEYOND);
        due("leaves(0, -1)", x.leaves(0, -1), BEYOND);
        due("leaves(3, 0)", x.leaves(3, 0), BEYOND);
        due("leaves(-1, 0)", x.leaves(-1, 0), BEYOND);
        due("now(0)", x.now(0), 0);
        due("now(4)", x.now(4), 0);
        due("now(5)", x.now(5), 170);
        Due.dueRow("nothing changes", x, 50, 50, 50, 50, 50, 50, 50, 50, 50, 50, 50, 99);
    }

    private static void after() {
        Due.part("promise 14");
        FeetBridge x = with(6, 81, 0, 50, 5, 50);
        due("after(1, 0)", x.after(1, 0), 0);
        due("after(1, 2)", x.after(1, 2), 12);
        due("after(0, 2)", x.after(0, 2), 0);
        due("after(2, 0)", x.after(2, 0), 12);
        due("after(1, 1)", x.after(1, 1), BEYOND);
        due("after(3, 1)", x.after(3, 1), BEYOND);
        due("after(1, 3)", x.after(1, 3), BEYOND);
        due("after(-1, 0)", x.after(-1, 0), BEYOND);
        due("after(0, -1)", x.after(0, -1), BEYOND);
        // The first one falls on plank 2 and leaves the planks ahead of it changed.
        x.plank(2, 0);
        due("after(1, 0)", x.after(1, 0), 0);
        due("would(1)", x.would(1), 2);
        due("now(0)", x.now(0), 0);
        Due.dueRow("nothing changes", x, 50, 50, 0, 50);
    }

    private static void often() {
        Due.part("promise 15");
        FeetBridge x = with(5, 90, 0, 81, 6, 50, 1, 60);
        due("often(0)", x.often(0), 60);
        due("often(1)", x.often(1), 0);
        due("often(2)", x.often(2), 60);
        due("often(3)", x.often(3), 60);
        due("often(4)", x.often(4), BEYOND);
        due("often(-1)", x.often(-1), BEYOND);
        due("now(0)", x.now(0), 0);
        FeetBridge y = with(1, 50);
        y.change(0, 2, 9);
        // A DRUNK that bears 4 leaves 5 more than its own gait everywhere.
        due("often(0)", y.often(0), 1);
    }

    private static void whatLetsOneCross() {
        FeetBridge x = with(0, 50, 1, 50, 5, 50, 2, 60);
        Due.part("promise 16");
        x.plank(0, 81);
        due("balanceFor(0)", x.balanceFor(0), 31);
        due("balanceFor(1)", x.balanceFor(1), 62);
        due("balanceFor(2)", x.balanceFor(2), 0);
        due("balanceFor(3)", x.balanceFor(3), 31);
        x.plank(0, 99);
        due("balanceFor(1)", x.balanceFor(1), 98);
        x.change(1, 1, 49);
        due("balanceFor(1)", x.balanceFor(1), NONE);
        due("balanceFor(4)", x.balanceFor(4), BEYOND);
        due("balanceFor(-1)", x.balanceFor(-1), BEYOND);
        due("of(0, 2)", x.of(0, 2), 30);
        FeetBridge far = with(0, 0);
        Due.keepAll(far, 99);
        due("balanceFor(0)", far.balanceFor(0), 99);
        Due.part("promise 17");
        FeetBridge y = with(2, 50, 6, 50, 5, 0);
        due("gaits(0)", y.gaits(0), 41);
        due("gaits(1)", y.gaits(1), 100);
        due("gaits(2)", y.gaits(2), 100);
        due("gaits(3)", y.gaits(3), BEYOND);
        due("gaits(-1)", y.gaits(-1), BEYOND);
        Due.part("promise 18");
        due("gaitFor(0)", y.gaitFor(0), 30);
        due("gaitFor(1)", y.gaitFor(1), 0);
        y.plank(5, 99);
        due("gaitFor(0)", y.gaitFor(0), NONE);
        due("gaits(0)", y.gaits(0), 0);
        y.plank(5, 80);
        due("gaitFor(0)", y.gaitFor(0), 60);
        due("gaits(0)", y.gaits(0), 11);
        y.change(0, 2, 10);
        Due.keepAll(y, 99);
        due("gaitFor(0)", y.gaitFor(0), 99);
        due("gaits(0)", y.gaits(0), 1);
        due("gaitFor(3)", y.gaitFor(3), BEYOND);
        due("gaitFor(-1)", y.gaitFor(-1), BEYOND);
        due("of(0, 1)", y.of(0, 1), 50);
        Due.part("promise 19");
        FeetBridge z = with(0, 50);
        due("kindsFor(0)", z.kindsFor(0), 127);
        z.plank(0, 81);
        due("kindsFor(0)", z.kindsFor(0), 8 + 16 + 32 + 64);
        z.plank(0, 99);
        due("kindsFor(0)", z.kindsFor(0), 32 + 64);
        z.night(1);
        due("kindsFor(0)", z.kindsFor(0), 16 + 32 + 64);
        due("kindsFor(1)", z.kindsFor(1), BEYOND);
        due("kindsFor(-1)", z.kindsFor(-1), BEYOND);
        due("of(0, 0)", z.of(0, 0), 0);
    }

    private static void orders() {
        // 0 needs planks near 81, which 1 leaves; 1 (bears 55) crosses behind anyone here.
        FeetBridge x = with(0, 81, 6, 80, 5, 30);
        Due.part("promise 20");
        due("order(3, 0)", x.order(3, 0), 1);
        due("order(3, 1)", x.order(3, 1), 0);
        due("order(1, 0)", x.order(1, 0), NONE);
        due("order(7, 2)", x.order(7, 2), 2);
        due("order(6, 0)", x.order(6, 0), 1);
        due("order(6, 1)", x.order(6, 1), 2);
        due("order(3, 2)", x.order(3, 2), BEYOND);
        due("order(3, -1)", x.order(3, -1), BEYOND);
        due("order(8, 0)", x.order(8, 0), BEYOND);
        due("order(-1, 0)", x.order(-1, 0), BEYOND);
        due("order(0, 0)", x.order(0, 0), BEYOND);
        Due.part("promise 21");
        due("orders(0)", x.orders(0), 1);
        due("orders(1)", x.orders(1), 0);
        due("orders(2)", x.orders(2), 1);
        due("orders(3)", x.orders(3), 1);
        // Behind 2 all planks keep 20: 60 apart from 80. So 2 is last.
        due("orders(6)", x.orders(6), 1);
        due("orders(7)", x.orders(7), 1);
        due("orders(8)", x.orders(8), BEYOND);
        due("orders(-1)", x.orders(-1), BEYOND);
        Due.part("promise 22");
        due("fewest(0)", x.fewest(0), 0);
        due("fewest(1)", x.fewest(1), 1);
        due("fewest(5)", x.fewest(5), 1);
        due("fewest(7)", x.fewest(7), 0);
        due("fewest(8)", x.fewest(8), BEYOND);
        due("fewest(-1)", x.fewest(-1), BEYOND);
        Due.part("promise 23");
        due("most()", x.most(), 7);
        due("most() of nobody", new FeetBridge().most(), 0);
        FeetBridge y = with(0, 99, 5, 50, 6, 99);
        // 2 crosses first or not at all, 0 only behind 2.
        due("most()", y.most(), 7);
        y.change(2, 1, 0);
        due("most()", y.most(), 6);
        FeetBridge z = with(2, 30, 2, 70);
        z.change(0, 2, 30);
        z.change(1, 2, 30);
        due("orders(3)", z.orders(3), 0);
        due("most() of either", z.most(), 1);
        due("fewest(3)", z.fewest(3), 1);
        due("now(0)", z.now(0), 0);
        due("fewest(1) first", with(0, 50).fewest(1), 0);
        due("orders(1) first", with(0, 50).orders(1), 1);
        due("most() first", with(0, 50).most(), 1);
        leastOfGreatest();
        FeetBridge all = with(5, 1, 5, 2, 5, 3, 5, 4, 5, 5, 5, 6);
        due("orders(63)", all.orders(63), 720);
        due("order(63, 5)", all.order(63, 5), 5);
        due("most()", all.most(), 63);
    }

    /** 0 and 2 are found ahead of 1 and 0, as 0 is the first to begin; but the set of 0 and 1 is less. */
    private static void leastOfGreatest() {
        FeetBridge x = with(2, 30, 2, 60, 2, 31);
        x.change(0, 2, 45);
        x.change(1, 2, 25);
        x.change(2, 2, 20);
        // 0 leaves 40, on which 2 just goes and 1 doesn't; behind 1, who leaves 55, it leaves 42: too much for 2.
        due("order(5, 0)", x.order(5, 0), 0);
        due("orders(5)", x.orders(5), 1);
        due("order(3, 0)", x.order(3, 0), 1);
        due("orders(3)", x.orders(3), 1);
        due("orders(7)", x.orders(7), 0);
        due("fewest(7)", x.fewest(7), 1);
        due("most()", x.most(), 3);
        // 1 ahead of 2 is safe, 2 ahead of 1 isn't, and 0 never: 2 alone, tried last, is less but no greater.
        FeetBridge y = with(0, 99, 2, 60, 6, 20);
        due("orders(6)", y.orders(6), 1);
        due("most()", y.most(), 6);
    }

    private static void laidPlanks() {
        Due.part("promise 24");
        FeetBridge x = with(2, 50);
        due("lay(0)", x.lay(0), 0);
        x.plank(11, 99);
        due("lay(0)", x.lay(0), 2048);
        x.plank(3, 0);
        due("lay(0)", x.lay(0), 2048 + 8);
        x.plank(0, 0);
        due("lay(0)", x.lay(0), 2048 + 8 + 1);
        x.plank(5, 71);
        due("lay(0)", x.lay(0), NONE);
        x.plank(5, 70);
        due("lay(0)", x.lay(0), 2048 + 8 + 1);
        due("lay(1)", x.lay(1), BEYOND);
        due("lay(-1)", x.lay(-1), BEYOND);
        due("keeps(11)", x.keeps(11), 99);
        // A DRUNK goes after the planks, so that one laid new ahead of the far one is enough, and the least counts.
        FeetBridge y = with(1, 42);
        Due.keepAll(y, 42, 42, 42, 58);
        due("would(0)", y.would(0), 3);
        due("lay(0)", y.lay(0), 1);
        Due.part("promise 25");
        due("best() of nobody", new FeetBridge().best(), 0);
        FeetBridge z = with(2, 50, 2, 60, 2, 70);
        due("best()", z.best(), 0);
        z.plank(4, 85);
        z.plank(7, 0);
        z.change(0, 0, 5);
        // MARCHERS of 60 and 70 fall on plank 7 whatever is laid elsewhere.
        due("best()", z.best(), 7);
        z.plank(7, 50);
        due("best()", z.best(), 4);
        due("keeps(4)", z.keeps(4), 85);
        FeetBridge one = with(2, 50);
        one.plank(11, 99);
        due("best()", one.best(), 11);
    }

    private static void takenAndSwayed() {
        Due.part("promise 26");
        FeetBridge x = with(6, 50, 6, 53, 5, 50, 6, 47);
        due("unlike(0, 1)", x.unlike(0, 1), 36);
        due("unlike(1, 0)", x.unlike(1, 0), 36);
        due("unlike(0, 2)", x.unlike(0, 2), 360);
        due("unlike(0, 0)", x.unlike(0, 0), BEYOND);
        due("unlike(0, 4)", x.unlike(0, 4), BEYOND);
        due("unlike(4, 0)", x.unlike(4, 0), BEYOND);
        due("unlike(-1, 0)", x.unlike(-1, 0), BEYOND);
        due("unlike(0, -1)", x.unlike(0, -1), BEYOND);
        Due.part("promise 27");
        due("taken(0)", x.taken(0), 1);
        due("taken(1)", x.taken(1), 0);
        due("taken(2)", x.taken(2), 3);
        due("taken(3)", x.taken(3), 0);
        due("taken(4)", x.taken(4), BEYOND);
        due("taken(-1)", x.taken(-1), BEYOND);
        due("taken(0) alone", with(0, 50).taken(0), NONE);
        Due.dueRow("nothing changes", x, 50);
        swayed();
    }

    private static void swayed() {
        FeetBridge x = with(0, 50, 2, 50, 5, 50);
        Due.part("promise 28");
        due("fits(0, 0)", x.fits(0, 0), MISSING);
        due("fits(0, 9)", x.fits(0, 9), MISSING);
        due("fits(-1, 0)", x.fits(-1, 0), BEYOND);
        due("fits(4, 0)", x.fits(4, 0), BEYOND);
        x.sheet(0, 16, 13);
        due("fits(0, 3)", x.fits(0, 3), BEYOND);
        due("fits(0, -1)", x.fits(0, -1), BEYOND);
        due("fits(0, 0)", x.fits(0, 0), STATE);
        x.sheet(0, 16, 12);
        due("fits(0, 0)", x.fits(0, 0), 0);
        x.sheet(0, 16, 1);
        x.write(0, 0, 50);
        // 50 is left by 50 itself and by all who fall at once: 0 to 19 and 81 to 99.
        due("fits(0, 0)", x.fits(0, 0), 40);
        // A MARCHER leaves 50 with 50 and 51, or falls at once with 0 to 29 and 71 to 99.
        due("fits(0, 1)", x.fits(0, 1), 61);
        due("fits(0, 2)", x.fits(0, 2), 0);
        Due.part("promise 29");
        due("gait(0, 0)", x.gait(0, 0), 0);
        due("gait(0, 2)", x.gait(0, 2), NONE);
        x.write(0, 0, 60);
        due("gait(0, 0)", x.gait(0, 0), 60);
        due("gait(0, 1)", x.gait(0, 1), 70);
        due("fits(0, 1)", x.fits(0, 1), 1);
        x.write(0, 0, 20);
        due("gait(0, 2)", x.gait(0, 2), 0);
        due("fits(0, 2)", x.fits(0, 2), 100);
        due("gait(1, 0)", x.gait(1, 0), MISSING);
        due("gait(4, 0)", x.gait(4, 0), BEYOND);
        due("gait(0, 3)", x.gait(0, 3), BEYOND);
        x.change(1, 2, 10);
        Due.keepAll(x, 99);
        x.plank(1, 0);
        x.write(0, 0, 98);
        // 98 bears 0 on 99, so it falls at once, and nobody leaves 98.
        due("gait(0, 1)", x.gait(0, 1), NONE);
        x.change(1, 0, 6);
        x.write(0, 0, 99);
        x.change(1, 2, 99);
        due("gait(0, 1)", x.gait(0, 1), 0);
        Due.keepAll(x, 50);
        due("gait(0, 1)", x.gait(0, 1), 99);
        x.change(1, 0, 2);
        x.change(1, 2, 30);
        x.write(0, 0, 20);
        x.sheet(1, 8, 13);
        due("gait(1, 3)", x.gait(1, 3), BEYOND);
        due("gait(1, 0)", x.gait(1, 0), STATE);
        Due.part("promise 30");
        due("who(0)", x.who(0), 4);
        x.write(0, 0, 50);
        due("who(0)", x.who(0), 3);
        x.write(0, 0, -1);
        due("who(0)", x.who(0), 7);
        x.write(0, 0, -2);
        due("who(0)", x.who(0), 0);
        x.sheet(3, 8, 12);
        due("who(3)", x.who(3), 0);
        for (int i = 0; i < 12; i++) {
            x.write(3, i, 20);
        }
        due("who(3)", x.who(3), 4);
        due("fits(3, 2)", x.fits(3, 2), 100);
        x.write(3, 11, 21);
        due("who(3)", x.who(3), 0);
        due("who(1)", x.who(1), STATE);
        due("who(2)", x.who(2), MISSING);
        due("who(4)", x.who(4), BEYOND);
        due("who(-1)", x.who(-1), BEYOND);
        due("of(0, 1)", x.of(0, 1), 50);
    }

    private static void strangers() {
        Due.part("promise 31");
        FeetBridge x = new FeetBridge();
        due("strangers(0)", x.strangers(0), BEYOND);
        due("strangers(21)", x.strangers(21), BEYOND);
        due("count(6)", x.count(6), 1);
        // z: 1, 1103527590, -1770082073: draws 4310654 and 9862832.
        due("strangers(1)", x.strangers(1), 600 - 50 + 32);
        due("keeps(2)", x.keeps(2), 32);
        due("count(6)", x.count(6), -1770082073);
        // Of a z below 0 the draw is above 0 all the same.
        x.seed(-1);
        int first = -1 * 1103515245 + 12345;
        int second = first * 1103515245 + 12345;
        x.plank((first >>> 8) % 12, 50);
        x.plank(2, 50);
        due("strangers(1)", x.strangers(1), 550 + (second >>> 8) % 100);
        due("keeps", x.keeps((first >>> 8) % 12), (second >>> 8) % 100);
        due("strangers(20)", x.strangers(20), x.count(4));
        Due.part("promise 32");
        FeetBridge y = with(0, 50, 5, 0);
        due("odds(0, 14, 0)", y.odds(0, 14, 0), 1);
        due("odds(0, 14, 1)", y.odds(0, 14, 1), 1);
        y.plank(0, 99);
        due("odds(0, 14, 0)", y.odds(0, 14, 0), 379749833583241L);
        due("odds(0, 14, 1)", y.odds(0, 14, 1), 1283918464548864L);
        due("odds(0, 0, 0)", y.odds(0, 0, 0), 1);
        due("odds(0, 0, 1)", y.odds(0, 0, 1), 1);
        y.plank(3, 99);
        due("odds(0, 2, 0)", y.odds(0, 2, 0), 25);
        due("odds(0, 2, 1)", y.odds(0, 2, 1), 36);
        due("odds(1, 2, 0)", y.odds(1, 2, 0), 1);
        Due.keepAll(y, 99);
        due("odds(0, 3, 0)", y.odds(0, 3, 0), 0);
        due("odds(0, 3, 1)", y.odds(0, 3, 1), 1);
        due("odds(0, 0, 0)", y.odds(0, 0, 0), 1);
        due("odds(0, 15, 0)", y.odds(0, 15, 0), BEYOND);
        due("odds(0, -1, 0)", y.odds(0, -1, 0), BEYOND);
        due("odds(0, 1, 2)", y.odds(0, 1, 2), BEYOND);
        due("odds(0, 1, -1)", y.odds(0, 1, -1), BEYOND);
        due("odds(2, 1, 0)", y.odds(2, 1, 0), BEYOND);
        due("odds(-1, 1, 0)", y.odds(-1, 1, 0), BEYOND);
        Due.part("promise 33");
        due("seed(-1000001)", y.seed(BEYOND), 1);
        due("seed(5)", y.seed(5), BEYOND);
        due("count(6)", y.count(6), 5);
        // What z was is no finding, even where it looks like one.
        due("status(0)", y.status(0), 6);
    }

    private static void texts() {
        Due.part("promise 34");
        FeetBridge x = new FeetBridge();
        due("feed(0, 0)", x.feed(0, 0), BEYOND);
        due("feed(0, 5)", x.feed(0, 5), BEYOND);
        due("feed(0, -1)", x.feed(0, -1), BEYOND);
        due("feed 'dday', 3 lowest", x.feed('d' << 24 | 'd' << 16 | 'a' << 8 | 'y', 3), 3);
        due("text()", x.text(), 1);
        for (int i = 0; i < 29; i++) {
            due("feed(0, 4)", x.feed(0, 4), 4 * i + 4);
        }
        due("feed(0, 3)", x.feed(0, 3), 119);
        due("feed(0, 2)", x.feed(0, 2), FULL);
        due("feed(0, 5)", x.feed(0, 5), BEYOND);
        due("feed(0, 1)", x.feed(0, 1), 120);
        due("feed(0, 1)", x.feed(0, 1), FULL);
        Due.part("promise 35");
        due("wipe()", x.wipe(), 120);
        due("wipe()", x.wipe(), 0);
        due("count(5)", x.count(5), 0);
        Due.part("promise 36");
        goodTexts();
        faults();
    }

    private static void goodTexts() {
        FeetBridge x = new FeetBridge();
        due("all kinds", Due.read(x, "walker;drunk;marcher;dancer;mourner;calm"), 6);
        for (int i = 0; i < 6; i++) {
            due("of(" + i + ", 0)", x.of(i, 0), i);
            due("of(" + i + ", 1)", x.of(i, 1), 50);
            due("of(" + i + ", 2)", x.of(i, 2), 30);
        }
        due("count(5)", x.count(5), 0);
        due("no walkers", Due.read(x, " night ; plank 11 99;plank11 0; plank 0 007 ;new 0;day ;plank 5 1;night"), 8);
        due("now(3)", x.now(3), 1);
        Due.dueRow("texts", x, 50, 50, 50, 50, 50, 1, 50, 50, 50, 50, 50, 0);
        due("day", Due.read(x, "day;new 11;plank 0 1"), 3);
        due("now(3)", x.now(3), 0);
        Due.dueRow("texts", x, 1, 50, 50, 50, 50, 1, 50, 50, 50, 50, 50, 50);
        due("a full tape", Due.read(x, "night;" + " ".repeat(111) + "day"), 2);
        due("a full tape", Due.read(x, "new 3;" + " ".repeat(106) + "plank 11"), -121);
        due("a full tape", Due.read(x, "new 3;" + " ".repeat(104) + "plank 5 77"), 2);
        due("keeps(5)", x.keeps(5), 77);
        FeetBridge y = new FeetBridge();
        due("carried", Due.read(y, "carried gait 0;drunk gait99balance99;calm balance 0"), 3);
        due("of(0, 0)", y.of(0, 0), 6);
        due("of(0, 1)", y.of(0, 1), 0);
        due("of(0, 2)", y.of(0, 2), 30);
        due("of(1, 1)", y.of(1, 1), 99);
        due("of(1, 2)", y.of(1, 2), 99);
        due("of(2, 1)", y.of(2, 1), 50);
        due("of(2, 2)", y.of(2, 2), 0);
    }

    private static void fault(String text, int place) {
        FeetBridge x = with(0, 50);
        x.plank(1, 3);
        due("'" + text + "'", Due.read(x, text), -1 - place);
        due("count(1)", x.count(1), 1);
        due("count(4)", x.count(4), 553);
        due("count(5)", x.count(5), 0);
        due("now(3)", x.now(3), 0);
        due("status(-1)", x.status(-1), 0);
    }

    private static void faults() {
        fault("", 0);
        fault("   ", 3);
        fault(";", 0);
        fault("night;", 6);
        fault("night; ", 7);
        fault("night;;day", 6);
        fault("night day", 6);
        fault("nights", 0);
        fault("Night", 0);
        fault("nightz", 0);
        fault("xight", 0);
        fault("walker foo 5", 7);
        fault("walker gait 5 foo 5", 14);
        fault("night\t", 5);
        fault("night;plank 1 2;plank", 21);
        fault("night;plank 1 2;plank ", 22);
        fault("plank 12 3", 6);
        fault("plank 1 100", 8);
        fault("plank 1", 7);
        fault("plank 1;2", 7);
        fault("plank x", 6);
        fault("plank 1 2 3", 10);
        fault("plank 99999999999999999999 2", 6);
        fault("plank 4294967296 2", 6);
        fault("plank 1 1000", 8);
        fault("new", 3);
        fault("new 12", 4);
        fault("new 1 2", 6);
        fault("walkergait 5", 0);
        fault("walker gait", 11);
        fault("walker gait 100", 12);
        fault("walker gait balance 5", 12);
        fault("walker balance 5 gait 5", 17);
        fault("walker balance 100", 15);
        fault("walker balance", 14);
        fault("walker gait 1 gait 2", 14);
        fault("walker 5", 7);
        fault("walker gait 5 6", 14);
        fault("gait 5", 0);
        fault("5", 0);
        fault("calm;calm;calm;calm;calm;calm gait 100", 25);
        fault("night;day,", 9);
        fault("night;" + (char) 225, 6);
    }

    private static void spotsAndSheets() {
        spots();
        sheet();
        write();
        copy();
        load();
        judge();
    }

    private static void spots() {
        FeetBridge x = with(0, 1, 1, 1, 2, 1, 3, 1, 4, 1, 5, 1);
        Due.part("promise 37");
        due("hold(-1, 0)", x.hold(-1, 0), BEYOND);
        due("hold(10, 0)", x.hold(10, 0), BEYOND);
        due("hold(0, 6)", x.hold(0, 6), BEYOND);
        due("hold(0, -2)", x.hold(0, -2), BEYOND);
        due("hold(9, 5)", x.hold(9, 5), 1);
        due("as(9, 0)", x.as(9, 0), 5);
        due("hold(9, 4)", x.hold(9, 4), 1);
        due("as(9, 0)", x.as(9, 0), 4);
        due("hold(9, -1)", x.hold(9, -1), 1);
        due("count(7)", x.count(7), 0);
        due("hold(9, -1)", x.hold(9, -1), 1);
        Due.part("promise 38");
        due("as(9, 0)", x.as(9, 0), MISSING);
        due("as(10, 0)", x.as(10, 0), BEYOND);
        due("as(-1, 0)", x.as(-1, 0), BEYOND);
        due("as(9, 7)", x.as(9, 7), BEYOND);
        due("as(9, -1)", x.as(9, -1), BEYOND);
        x.hold(0, 0);
        String[] above = {"0", "01", "02", "023", "0234", "05", "016"};
        for (int kind = 0; kind < 7; kind++) {
            x.change(0, 0, kind);
            for (int as = 0; as < 7; as++) {
                due(kind + " as " + as, x.as(0, as), above[kind].indexOf('0' + as) >= 0 ? 0 : KIND);
            }
        }
    }

    private static void sheet() {
        Due.part("promise 39");
        FeetBridge x = new FeetBridge();
        due("sheet(0, 8, 40)", x.sheet(0, 8, 40), 40);
        due("sheet(3, 16, 1)", x.sheet(3, 16, 1), 1);
        due("sheet(1, 32, 0)", x.sheet(1, 32, 0), 0);
        due("load(1)", x.load(1), 0);
        due("sheet(4, 8, 1)", x.sheet(4, 8, 1), BEYOND);
        due("sheet(-1, 8, -1)", x.sheet(-1, 8, -1), BEYOND);
        due("sheet(0, 7, -1)", x.sheet(0, 7, -1), BEYOND);
        due("sheet(0, 64, 1)", x.sheet(0, 64, 1), BEYOND);
        due("sheet(0, -8, 1)", x.sheet(0, -8, 1), BEYOND);
        due("sheet(0, 8, -1)", x.sheet(0, 8, -1), SIZE);
        due("sheet(0, 0, -1)", x.sheet(0, 0, -1), SIZE);
        due("sheet(0, 8, 41)", x.sheet(0, 8, 41), BEYOND);
        due("write(0, 39, 1)", x.write(0, 39, 1), 1);
        due("sheet(0, 0, 41)", x.sheet(0, 0, 41), BEYOND);
        due("write(0, 39, 1)", x.write(0, 39, 1), 1);
        due("sheet(0, 0, 5)", x.sheet(0, 0, 5), 0);
        due("load(0)", x.load(0), MISSING);
        // A sheet made anew has forgotten what was written.
        x.sheet(2, 8, 1);
        x.write(2, 0, 77);
        due("sheet(2, 8, 1)", x.sheet(2, 8, 1), 1);
        due("load(2)", x.load(2), 1);
        due("keeps(0)", x.keeps(0), 0);
    }

    private static void write() {
        Due.part("promise 40");
        FeetBridge x = new FeetBridge();
        due("write(0, 0, 1)", x.write(0, 0, 1), MISSING);
        due("write(4, 0, 1)", x.write(4, 0, 1), BEYOND);
        due("write(-1, 0, 1)", x.write(-1, 0, 1), BEYOND);
        int[] bits = {8, 16, 32};
        for (int s = 0; s < 3; s++) {
            x.sheet(s, bits[s], 2);
            due("write(s, 2, 1)", x.write(s, 2, 1), BEYOND);
            due("write(s, -1, 1)", x.write(s, -1, 1), BEYOND);
            due("write(s, 0, 256 + 7)", x.write(s, 0, 256 + 7), 1);
            due("write(s, 1, 65536 + 9)", x.write(s, 1, 65536 + 9), 1);
        }
        due("load(0)", x.load(0), 2);
        due("keeps(0)", x.keeps(0), 7);
        due("keeps(1)", x.keeps(1), 9);
        due("load(1)", x.load(1), 0);
        x.write(1, 0, 8);
        due("load(1)", x.load(1), 2);
        x.write(2, 0, 8);
        due("load(2)", x.load(2), 1);
        // 255 in 8 bits and 65535 in 16 are -1: any.
        x.walker(0, 50);
        for (int s = 0; s < 3; s++) {
            x.sheet(s, bits[s], 1);
            x.write(s, 0, 255);
            due("who with 255", x.who(s), s == 0 ? 1 : 0);
            x.write(s, 0, 65535);
            due("who with 65535", x.who(s), s < 2 ? 1 : 0);
        }
    }

    private static void fill(FeetBridge x, int s, int bits, int... v) {
        x.sheet(s, bits, v.length);
        for (int i = 0; i < v.length; i++) {
            x.write(s, i, v[i]);
        }
    }

    private static void dueLoaded(FeetBridge x, int s, int... v) {
        due("load", x.load(s), v.length);
        for (int i = 0; i < v.length; i++) {
            due("loaded " + i, x.keeps(i), v[i]);
        }
    }

    private static void copy() {
        Due.part("promise 41");
        FeetBridge x = new FeetBridge();
        fill(x, 0, 8, 1, 2, 3, 4, 5);
        fill(x, 1, 8, 11, 12, 13);
        fill(x, 2, 16, 1, 2);
        due("copy(0, 1, 1, 0, 2)", x.copy(0, 1, 1, 0, 2), 2);
        dueLoaded(x, 1, 2, 3, 13);
        due("copy(0, 0, 0, 1, 4)", x.copy(0, 0, 0, 1, 4), 4);
        dueLoaded(x, 0, 1, 1, 2, 3, 4);
        due("copy(0, 1, 0, 0, 4)", x.copy(0, 1, 0, 0, 4), 4);
        dueLoaded(x, 0, 1, 2, 3, 4, 4);
        due("copy(1, 0, 0, 2, 3)", x.copy(1, 0, 0, 2, 3), 3);
        dueLoaded(x, 0, 1, 2, 2, 3, 13);
        due("copy(0, 5, 1, 3, 0)", x.copy(0, 5, 1, 3, 0), 0);
        due("copy(0, 6, 1, 3, 0)", x.copy(0, 6, 1, 3, 0), BEYOND);
        due("copy(0, 0, 1, 4, 0)", x.copy(0, 0, 1, 4, 0), BEYOND);
        due("copy(4, 0, 3, 0, 1)", x.copy(4, 0, 3, 0, 1), BEYOND);
        due("copy(3, 0, 4, 0, 1)", x.copy(3, 0, 4, 0, 1), BEYOND);
        due("copy(-1, 0, 0, 0, 1)", x.copy(-1, 0, 0, 0, 1), BEYOND);
        due("copy(3, -1, 2, 0, 1)", x.copy(3, -1, 2, 0, 1), MISSING);
        due("copy(2, 0, 3, 0, 1)", x.copy(2, 0, 3, 0, 1), MISSING);
        due("copy(0, -1, 2, 0, 1)", x.copy(0, -1, 2, 0, 1), KIND);
        due("copy(0, -1, 1, 0, 1)", x.copy(0, -1, 1, 0, 1), BEYOND);
        due("copy(0, 0, 1, -1, 1)", x.copy(0, 0, 1, -1, 1), BEYOND);
        due("copy(0, 0, 1, 0, -1)", x.copy(0, 0, 1, 0, -1), BEYOND);
        due("copy(0, 0, 1, 0, 4)", x.copy(0, 0, 1, 0, 4), BEYOND);
        due("copy(1, 0, 0, 3, 3)", x.copy(1, 0, 0, 3, 3), BEYOND);
        due("copy(0, greatest, 1, 0, 2)", x.copy(0, GREATEST, 1, 0, 2), BEYOND);
        due("copy(0, 1, 1, 1, greatest)", x.copy(0, 1, 1, 1, GREATEST), BEYOND);
        due("copy(0, least, 1, least, least)", x.copy(0, LEAST, 1, LEAST, LEAST), BEYOND);
        dueLoaded(x, 1, 2, 3, 13);
    }

    private static void load() {
        Due.part("promise 42");
        FeetBridge x = new FeetBridge();
        fill(x, 0, 8, 0, 99, 100, 1);
        due("load(0)", x.load(0), 2);
        Due.dueRow("load(0)", x, 0, 99, 50);
        fill(x, 0, 8, -1, 5);
        due("load(0)", x.load(0), 0);
        fill(x, 0, 32, 1, 2, 3, 4, 5, 6, 7, 8, 9, 10, 11, 12, 13, 14);
        due("load(0)", x.load(0), 12);
        Due.dueRow("load(0)", x, 1, 2, 3, 4, 5, 6, 7, 8, 9, 10, 11, 12);
        due("load(1)", x.load(1), MISSING);
        due("load(4)", x.load(4), BEYOND);
        due("load(-1)", x.load(-1), BEYOND);
    }

    private static void judge() {
        Due.part("promise 43");
        FeetBridge x = with(0, 81, 6, 80, 5, 30);
        due("judge(0)", x.judge(0), MISSING);
        due("judge(4)", x.judge(4), BEYOND);
        due("judge(-1)", x.judge(-1), BEYOND);
        x.sheet(0, 8, 0);
        due("judge of nobody", x.judge(0), 0);
        fill(x, 0, 8, 1, 0, 2);
        due("judge(1, 0, 2)", x.judge(0), 0);
        fill(x, 0, 8, 0, 1, 2);
        due("judge(0, 1, 2)", x.judge(0), 1);
        fill(x, 0, 8, 1, 1);
        due("judge(1, 1)", x.judge(0), 2);
        fill(x, 0, 8, 1, 2, 0);
        due("judge(1, 2, 0)", x.judge(0), 3);
        fill(x, 0, 32, 1, 3);
        due("judge(1, 3)", x.judge(0), 2);
        fill(x, 0, 32, -1);
        due("judge(-1)", x.judge(0), 1);
        fill(x, 0, 32, 2, GREATEST);
        due("judge(2, greatest)", x.judge(0), 2);
        due("now(0)", x.now(0), 0);
        Due.dueRow("nothing changes", x, 50);
    }

    private static void images() {
        imageUndoTear();
        count();
        status();
    }

    private static void imageUndoTear() {
        Due.part("promises 44 to 46");
        FeetBridge x = with(0, 40);
        x.hold(3, 0);
        x.cross(0);
        x.sheet(0, 8, 1);
        x.night(1);
        x.seed(77);
        due("image()", x.image(), 1);
        int gait = x.of(0, 1);
        int keep = x.keeps(0);
        x.plank(0, 99);
        x.cross(0);
        x.change(0, 0, 4);
        x.change(0, 1, 9);
        x.change(0, 2, 8);
        x.walker(5, 5);
        x.hold(3, 1);
        x.hold(4, 1);
        x.night(0);
        x.strangers(3);
        x.write(0, 0, 66);
        x.feed(0, 3);
        x.keeps(12);
        due("undo()", x.undo(), 1);
        due("of(0, 0)", x.of(0, 0), 0);
        due("of(0, 1)", x.of(0, 1), gait);
        due("of(0, 2)", x.of(0, 2), 30);
        due("of(0, 3)", x.of(0, 3), 0);
        due("count(0)", x.count(0), 1);
        due("count(1)", x.count(1), 1);
        due("count(5)", x.count(5), 3);
        due("count(6)", x.count(6), 77);
        due("count(7)", x.count(7), 1);
        due("as(3, 0)", x.as(3, 0), 0);
        due("now(3)", x.now(3), 1);
        due("keeps(0)", x.keeps(0), keep);
        due("status(-1)", x.status(-1), 1);
        due("load(0)", x.load(0), 1);
        due("keeps(0)", x.keeps(0), 66);
        due("undo()", x.undo(), 1);
        due("keeps(0)", x.keeps(0), keep);
        x.cross(0);
        due("image()", x.image(), 1);
        x.cross(0);
        due("undo()", x.undo(), 2);
        due("tear()", x.tear(), 1);
        due("tear()", x.tear(), 0);
        due("undo()", x.undo(), NONE);
        due("count(0)", x.count(0), 2);
    }

    private static void count() {
        Due.part("promise 47");
        FeetBridge x = with(0, 50, 5, 10);
        x.plank(0, 90);
        x.crowd(3);
        x.change(1, 3, 4);
        x.feed(0, 2);
        x.seed(-5);
        x.hold(0, 1);
        x.hold(9, 1);
        // CALM leaves 20 everywhere and becomes 20; the other one fell.
        int[] due = {2, 2, 5, 70, 240, 2, -5, 2};
        for (int what = 0; what < 8; what++) {
            due("count(" + what + ")", x.count(what), due[what]);
        }
        due("count(8)", x.count(8), BEYOND);
        due("count(-1)", x.count(-1), BEYOND);
    }

    private static void status() {
        Due.part("promise 48");
        FeetBridge x = new FeetBridge();
        due("status(7)", x.status(7), BEYOND);
        due("status(0)", x.status(0), 1);
        due("status(-2)", x.status(-2), BEYOND);
        due("status(0)", x.status(0), 2);
        x.undo();
        x.load(0);
        x.sheet(0, 8, -1);
        x.sheet(0, 8, -1);
        x.sheet(0, 8, 13);
        x.who(0);
        x.sheet(1, 16, 1);
        x.copy(0, 0, 1, 0, 1);
        for (int i = 0; i < 7; i++) {
            x.walker(0, 0);
        }
        int[] due = {2, 1, 1, 1, 1, 1, 2};
        for (int which = 0; which < 7; which++) {
            due("status(" + which + ")", x.status(which), due[which]);
        }
        due("status(-1)", x.status(-1), 9);
        x.text();
        due("status(-1)", x.status(-1), 9);
    }
}
