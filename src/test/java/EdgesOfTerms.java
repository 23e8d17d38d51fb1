/** The edges of the words that the promises use: findings, sets, kinds, crossings, draws, orders. */
final class EdgesOfTerms {
    private static final int BEYOND = Due.BEYOND;
    private static final int FULL = Due.FULL;
    private static final int KIND = Due.KIND;
    private static final int NONE = Due.NONE;
    private static final int STATE = Due.STATE;
    private static final int MISSING = Due.MISSING;
    private static final int SIZE = Due.SIZE;

    private EdgesOfTerms() {
    }

    static void all() {
        findings();
        numbers();
        bears();
        stepping();
        footprints();
        crossing();
        Edges.term("SPOTS 0 to 9 hold a WALKER or nothing (at first).", EdgesOfTerms::tenSpots);
        Edges.term("SHEETS 0 to 3: rows of at most 40 numbers of 8, 16 or 32 bits, or MISSING (at first).",
            EdgesOfTerms::fourSheets);
    }

    private static void findings() {
        Edges.term("LOW is -1000001; LOW BEYOND, LOW - 1 FULL, LOW - 2 KIND, LOW - 3 NONE, LOW - 4 STATE, "
            + "LOW - 5 MISSING, LOW - 6 SIZE", EdgesOfTerms::sevenFindings);
        Edges.term("(in longs, too)", () -> Due.due("odds of nobody", new FeetBridge().odds(0, 0, 0), -1000001L));
        Edges.term("Each act tells its findings in the order in which they are asked", EdgesOfTerms::orderOfFindings);
        Edges.term("one that answers a finding changes nothing but status()", EdgesOfTerms::refusedCalls);
        Edges.term("Sets are told as bits", EdgesOfTerms::setsAsBits);
        Edges.term("of several that would do the least number counts", EdgesOfTerms::leastOfSeveral);
    }

    private static void sevenFindings() {
        Run r = Run.with("walker(0, 50)", "walker(0, 50)", "walker(0, 50)", "walker(0, 50)", "walker(0, 50)",
            "walker(0, 50)", "sheet(0, 8, 13)", "sheet(1, 16, 0)");
        r.due("keeps(12)", -1000001);
        r.due("walker(0, 0)", -1000002);
        r.due("copy(0, 0, 1, 0, 0)", -1000003);
        r.due("undo()", -1000004);
        r.due("who(0)", -1000005);
        r.due("who(2)", -1000006);
        r.due("sheet(0, 8, -1)", -1000007);
    }

    /** Each of these calls would have a second finding behind the one that it answers. */
    private static void orderOfFindings() {
        Run r = Run.with("walker(0, 99)", "sheet(0, 8, 13)", "sheet(1, 16, 1)");
        r.refuses("order(1, 1)", BEYOND).refuses("order(1, 0)", NONE);
        r.refuses("taken(1)", BEYOND).refuses("taken(0)", NONE);
        r.does("change(0, 1, 50)").lays(0, 99, 0, 99, 0);
        r.refuses("balanceFor(1)", BEYOND).refuses("gaitFor(1)", BEYOND).refuses("gaitFor(0)", NONE);
        r.refuses("lay(1)", BEYOND).refuses("lay(0)", NONE);
        r.refuses("fits(4, 1)", BEYOND).refuses("fits(2, 1)", MISSING).refuses("fits(0, 1)", BEYOND);
        r.refuses("fits(0, 0)", STATE);
        r.refuses("gait(4, 1)", BEYOND).refuses("gait(2, 1)", MISSING).refuses("gait(0, 1)", BEYOND);
        r.refuses("gait(0, 0)", STATE);
        r.refuses("sheet(4, 8, -1)", BEYOND).refuses("sheet(0, 9, -1)", BEYOND).refuses("sheet(0, 8, -1)", SIZE);
        r.refuses("write(4, 99, 1)", BEYOND).refuses("write(2, 99, 1)", MISSING).refuses("write(1, 99, 1)", BEYOND);
        r.refuses("copy(4, -1, 2, -1, -1)", BEYOND).refuses("copy(2, -1, 4, -1, -1)", BEYOND);
        r.refuses("copy(2, -1, 0, -1, -1)", MISSING).refuses("copy(0, -1, 2, -1, -1)", MISSING);
        r.refuses("copy(0, -1, 1, -1, -1)", KIND).refuses("copy(1, -1, 1, -1, -1)", BEYOND);
        r.refuses("as(10, 7)", BEYOND).refuses("as(9, 7)", BEYOND).refuses("as(9, 1)", MISSING);
        r.does("hold(9, 0)").refuses("as(9, 7)", BEYOND).refuses("as(9, 1)", KIND);
        for (int i = 1; i < 6; i++) {
            r.due("walker(5, 20)", i);
        }
        r.refuses("walker(7, 20)", BEYOND).refuses("walker(5, 100)", BEYOND).refuses("walker(5, 20)", FULL);
        r.feeds(" ".repeat(120));
        r.refuses("feed(0, 5)", BEYOND).refuses("feed(0, 4)", FULL);
    }

    /** Of everything something is there, so that it could be changed. */
    private static Run rich() {
        Run r = Run.with("walker(0, 40)", "walker(4, 60)", "plank(3, 70)", "night(1)", "cross(1)", "seed(77)",
            "hold(2, 1)", "image()", "walker(5, 9)", "change(0, 3, 12)", "hold(5, 2)", "cross(0)", "strangers(2)");
        r.fills(0, 8, 33, 34, 35).fills(1, 16, 1, 44).fills(2, 32, 1, 2, 3, 4, 5, 6, 7, 8, 9, 10, 11, 12, 13);
        return r.feeds("night;plank 3 7");
    }

    /** Every act that has findings, each with each of them that can come in a bridge that isn't full. */
    private static void refusedCalls() {
        String[] beyond = {"plank(12, 3)", "plank(3, 100)", "keeps(12)", "walker(7, 3)", "walker(3, 100)", "of(3, 0)",
            "of(0, 6)", "change(3, 0, 1)", "change(0, 4, 1)", "change(0, 1, 100)", "night(2)", "cross(3)", "crowd(9)",
            "now(6)", "would(3)", "becomes(3)", "leaves(3, 0)", "leaves(0, 12)", "after(3, 0)", "after(0, 3)",
            "after(1, 1)", "often(3)", "balanceFor(3)", "gaits(3)", "gaitFor(3)", "kindsFor(3)", "order(9, 0)",
            "order(1, 1)", "orders(9)", "fewest(9)", "lay(3)", "unlike(0, 3)", "unlike(1, 1)", "taken(3)", "fits(4, 0)",
            "fits(0, 3)", "gait(4, 0)", "gait(0, 3)", "who(4)", "strangers(21)", "odds(3, 0, 0)", "odds(0, 15, 0)",
            "odds(0, 0, 2)", "feed(1, 5)", "hold(10, 0)", "hold(2, 3)", "as(10, 0)", "as(2, 7)", "sheet(4, 8, 1)",
            "sheet(0, 9, 1)", "sheet(0, 8, 41)", "write(4, 0, 9)", "write(0, 3, 9)", "copy(4, 0, 0, 0, 1)",
            "copy(0, 0, 4, 0, 1)", "copy(0, 0, 0, 1, 3)", "load(4)", "judge(4)", "count(8)", "status(7)"};
        Run r = rich();
        for (String call : beyond) {
            r.refuses(call, BEYOND);
        }
        r.refuses("copy(0, 0, 1, 0, 1)", KIND).refuses("as(2, 1)", KIND);
        r.refuses("fits(2, 0)", STATE).refuses("gait(2, 0)", STATE).refuses("who(2)", STATE);
        for (String call : new String[] {"fits(3, 0)", "gait(3, 0)", "who(3)", "write(3, 0, 9)", "copy(3, 0, 0, 0, 1)",
            "copy(0, 0, 3, 0, 1)", "load(3)", "judge(3)", "as(0, 0)"}) {
            r.refuses(call, MISSING);
        }
        r.refuses("sheet(0, 8, -1)", SIZE).refuses("sheet(0, 0, -1)", SIZE);
    }

    private static void setsAsBits() {
        Run r = Run.with("walker(2, 50)").asks("of(0, 5)", 0).asks("now(2)", 0).asks("most()", 1);
        r.does("plank(0, 71)").asks("of(0, 5)", 1).asks("now(2)", 1).asks("most()", 0);
        r.does("plank(11, 29)").asks("of(0, 5)", 2049).asks("lay(0)", 2049);
        r.lays(99).asks("of(0, 5)", 4095);
        Run all = new Run();
        for (int i = 0; i < 6; i++) {
            all.does("walker(0, 99)");
        }
        all.asks("now(2)", 63).asks("most()", 0).does("change(5, 0, 5)").asks("now(2)", 31).asks("most()", 32);
        all.asks("kindsFor(0)", 32 + 64);
    }

    private static void leastOfSeveral() {
        Run.with("walker(5, 50)", "walker(5, 40)", "walker(5, 30)").asks("best()", 0).asks("taken(0)", 1)
            .asks("taken(1)", 0).asks("taken(2)", 0).asks("order(7, 0)", 0);
    }

    private static void numbers() {
        Edges.term("Quotients are cut (towards 0).", EdgesOfTerms::cutQuotients);
        Edges.term("PLANKS 0 to 11", () -> Run.with().refuses("keeps(-1)", BEYOND).asks("keeps(0)", 50)
            .asks("keeps(11)", 50).refuses("keeps(12)", BEYOND));
        Edges.term("each KEEPS a gait (0 to 99; 50 at first)", () -> Run.with().keeps(50).refuses("plank(5, -1)", BEYOND)
            .due("plank(5, 0)", 50).due("plank(5, 99)", 0).refuses("plank(5, 100)", BEYOND).asks("keeps(5)", 99));
        Edges.term("GAITS are numbers 0 to 99 (held, where they would be beyond).", EdgesOfTerms::heldGaits);
        Edges.term("WALKERS 0, 1, .. (at most 6)", EdgesOfTerms::sixWalkers);
        Edges.term("KINDS: 0 WALKER; 1 DRUNK, 2 MARCHER, 5 CALM under WALKER; 3 DANCER under MARCHER; 4 MOURNER under "
            + "DANCER; 6 CARRIED under DRUNK", EdgesOfTerms::kindsUnderKinds);
        Edges.term("each with a GAIT (50 at first), BALANCE (0 to 99; 30 at first), FELL (how often; 0 to 9999; 0 at "
            + "first)", EdgesOfTerms::firstOfWalkers);
        Edges.term("FELL (how often; 0 to 9999;", EdgesOfTerms::mostFalls);
        Edges.term("NIGHT: 0 or 1 (0 at first).", () -> Run.with().asks("now(3)", 0).refuses("night(-1)", BEYOND)
            .refuses("night(2)", BEYOND).due("night(0)", 0).due("night(1)", 0).asks("now(3)", 1));
    }

    /** One that finds a and b on PLANKS 0 and 1, and what it leaves there; by the second the step on the first shows. */
    private static void leaves(int kind, int gait, int a, int b, int onFirst, int onSecond) {
        Run r = Run.with("walker(" + kind + ", " + gait + ")", "change(0, 2, 99)", "plank(0, " + a + ")",
            "plank(1, " + b + ")");
        r.asks("leaves(0, 0)", onFirst).asks("leaves(0, 1)", onSecond);
    }

    private static void cutQuotients() {
        leaves(0, 50, 53, 50, 50, 50);
        leaves(0, 50, 54, 50, 50, 51);
        leaves(0, 50, 47, 50, 50, 50);
        leaves(0, 50, 46, 50, 50, 49);
        leaves(1, 50, 51, 50, 55, 55);
        leaves(1, 50, 49, 50, 55, 55);
        leaves(1, 50, 48, 50, 55, 54);
        leaves(2, 50, 51, 50, 50, 50);
        leaves(2, 50, 49, 50, 49, 50);
        leaves(3, 50, 59, 51, 57, 54);
        leaves(3, 50, 41, 51, 48, 54);
        leaves(3, 50, 40, 52, 48, 54);
        leaves(3, 50, 40, 51, 48, 53);
        leaves(4, 50, 41, 51, 48, 53);
        leaves(4, 50, 40, 51, 48, 52);
    }

    private static void heldGaits() {
        leaves(1, 94, 94, 94, 99, 99);
        leaves(1, 95, 95, 95, 99, 99);
        leaves(1, 99, 99, 99, 99, 99);
        leaves(3, 96, 96, 96, 99, 99);
        leaves(3, 99, 99, 99, 99, 99);
        Run.with("walker(3, 99)").lays(99).asks("becomes(0)", 99);
        Run.with("walker(3, 98)").lays(98).asks("becomes(0)", 99);
        Run.with("walker(4, 0)").lays(0).asks("becomes(0)", 0).due("cross(0)", 12).keeps(3);
        Run.with("walker(4, 1)").lays(1).asks("becomes(0)", 0);
        Run.with("walker(3, 99)").lays(99).due("cross(0)", 12).asks("of(0, 1)", 99).keeps(99);
    }

    private static void sixWalkers() {
        Run r = Run.with();
        r.refuses("of(0, 0)", BEYOND);
        for (int i = 0; i < 6; i++) {
            r.asks("count(1)", i).due("walker(0, 50)", i).asks("of(" + i + ", 0)", 0);
        }
        r.refuses("walker(0, 50)", FULL).refuses("of(6, 0)", BEYOND).refuses("of(-1, 0)", BEYOND);
        r.asks("count(1)", 6).faults("walker", 0);
    }

    private static void kindsUnderKinds() {
        String[] above = {"0", "01", "02", "023", "0234", "05", "016"};
        for (int kind = 0; kind < 7; kind++) {
            Run r = Run.with("walker(" + kind + ", 50)", "hold(0, 0)");
            for (int as = 0; as < 7; as++) {
                String call = "as(0, " + as + ")";
                if (above[kind].indexOf('0' + as) >= 0) {
                    r.asks(call, 0);
                } else {
                    r.refuses(call, KIND);
                }
            }
        }
    }

    private static void firstOfWalkers() {
        Run.with().reads("walker", 1).asks("of(0, 1)", 50).asks("of(0, 2)", 30).asks("of(0, 3)", 0);
        Run.with("walker(6, 7)").asks("of(0, 2)", 30).asks("of(0, 3)", 0);
    }

    private static void mostFalls() {
        Run r = Run.with("walker(0, 0)", "change(0, 3, 9998)");
        r.due("cross(0)", 0).asks("of(0, 3)", 9999).due("cross(0)", 0).asks("of(0, 3)", 9999).asks("now(0)", 2);
        r.refuses("change(0, 3, 10000)", BEYOND).refuses("change(0, 3, -1)", BEYOND);
    }

    private static void bears() {
        Edges.term("One FALLS on a PLANK, if its GAIT (as it is then) and what that KEEPS are apart by more than it BEARS",
            EdgesOfTerms::fallsByMore);
        Edges.term("if its GAIT (as it is then)", EdgesOfTerms::gaitAsItIsThen);
        Edges.term("WALKER: BALANCE.", () -> bearing(0, 0, 1, 9, 10, 11, 98, 99));
        Edges.term("DRUNK: half (cut) of that.", () -> bearing(1, 0, 0, 4, 5, 5, 49, 49));
        Edges.term("CARRIED: as DRUNK, and 40.", () -> bearing(6, 40, 40, 44, 45, 45, 89, 89));
        Edges.term("MARCHER: as a WALKER, less 10, 0 at least.", () -> bearing(2, 0, 0, 0, 0, 1, 88, 89));
        Edges.term("DANCER: as a MARCHER, and 20.", () -> bearing(3, 20, 20, 20, 20, 21, 108, 109));
        Edges.term("MOURNER: as a DANCER, but 99 at night.", () -> bearing(4, 20, 20, 20, 20, 21, 108, 109));
        Edges.term("but 99 at night", EdgesOfTerms::mournersAtNight);
        Edges.term("CALM: 99.", () -> bearing(5, 99, 99, 99, 99, 99, 99, 99));
    }

    private static void fallsByMore() {
        int[] bears = {30, 15, 20, 40, 40, 99, 55};
        for (int kind = 0; kind < 7; kind++) {
            Run low = Run.with("walker(" + kind + ", 0)", "plank(0, " + bears[kind] + ")");
            // All but CALM and CARRIED fall on 50 as well, if they come with 0.
            low.asks("of(0, 5)", kind < 5 ? 4094 : 0);
            Run high = Run.with("walker(" + kind + ", 99)").lays(99 - bears[kind]).asks("of(0, 5)", 0);
            if (bears[kind] < 99) {
                low.does("plank(0, " + (bears[kind] + 1) + ")").asks("would(0)", 0);
                high.does("plank(11, " + (98 - bears[kind]) + ")").asks("of(0, 5)", 2048);
            }
        }
    }

    private static void gaitAsItIsThen() {
        // 50 goes on PLANK 0 to 57, and from there on to 64.
        Run r = Run.with("walker(0, 50)", "plank(0, 80)", "plank(1, 87)").asks("of(0, 5)", 2).asks("would(0)", 12);
        r.does("plank(1, 88)").asks("would(0)", 1);
        r.does("plank(1, 87)", "plank(2, 33)").asks("of(0, 5)", 2).asks("would(0)", 2);
        r.does("plank(2, 34)").asks("would(0)", 12);
    }

    private static void bearing(int kind, int... bears) {
        int[] balances = {0, 1, 9, 10, 11, 98, 99};
        Run r = Run.with("walker(" + kind + ", 50)");
        for (int i = 0; i < balances.length; i++) {
            r.does("change(0, 2, " + balances[i] + ")").asks("of(0, 4)", bears[i]);
        }
        if (kind != 4) {
            r.does("night(1)").asks("of(0, 4)", bears[6]);
        }
    }

    private static void mournersAtNight() {
        Run r = Run.with("walker(4, 0)", "plank(0, 99)", "change(0, 2, 0)").asks("of(0, 4)", 20).asks("would(0)", 0);
        r.does("night(1)").asks("of(0, 4)", 99).asks("would(0)", 12);
        r.does("change(0, 2, 99)").asks("of(0, 4)", 99).does("night(0)").asks("of(0, 4)", 109);
    }

    private static void stepping() {
        Edges.term("STEPPING on a PLANK (if it doesn't FALL there)", () -> Run.with("walker(0, 50)", "plank(0, 81)")
            .asks("becomes(0)", 50).due("cross(0)", 0).asks("of(0, 1)", 50));
        Edges.term("WALKER: a quarter (cut) of how much the PLANK KEEPS more (less, if it is below 0).", () -> {
            leaves(0, 0, 99, 50, 0, 24);
            leaves(0, 99, 0, 50, 99, 75);
            leaves(0, 50, 50, 50, 50, 50);
        });
        Edges.term("DRUNK: half (cut) of how much it KEEPS more.", () -> {
            leaves(1, 0, 49, 50, 5, 29);
            leaves(1, 49, 0, 49, 54, 30);
            leaves(1, 50, 50, 50, 55, 55);
        });
        Edges.term("CARRIED, MARCHER: 0.", () -> {
            leaves(6, 0, 89, 50, 0, 0);
            leaves(2, 0, 89, 50, 44, 25);
        });
        Edges.term("DANCER: a tenth (cut) of how much it KEEPS more, and 1.", () -> {
            leaves(3, 0, 99, 50, 52, 33);
            leaves(3, 99, 0, 51, 52, 74);
            leaves(3, 50, 30, 51, 43, 53);
        });
        Edges.term("MOURNER: as a DANCER, less 2.", () -> {
            leaves(4, 0, 99, 50, 52, 32);
            leaves(4, 99, 0, 51, 52, 73);
            leaves(4, 50, 50, 51, 53, 53);
        });
        Edges.term("CALM: 5 nearer to 20 (to it, if it is as near).", EdgesOfTerms::calmSteps);
    }

    /** On the last PLANK it has come 55 nearer, if it was so far. */
    private static void calmSteps() {
        int[][] steps = {{0, 20}, {1, 20}, {14, 20}, {19, 20}, {20, 20}, {21, 20}, {25, 20}, {26, 20}, {79, 20},
            {80, 20}, {81, 21}, {84, 24}, {85, 25}, {86, 26}, {99, 39}};
        for (int[] step : steps) {
            Run.with("walker(5, " + step[0] + ")").asks("becomes(0)", step[1]);
        }
    }

    private static void footprints() {
        Edges.term("Then the PLANK KEEPS (by what its GAIT was ahead of that): WALKER, CARRIED: just that.", () -> {
            leaves(0, 20, 60, 0, 20, 30);
            leaves(6, 99, 20, 20, 99, 99);
            leaves(6, 0, 80, 80, 0, 0);
        });
        Edges.term("DRUNK: that and 5.", () -> leaves(1, 20, 60, 0, 25, 45));
        Edges.term("MARCHER: half (cut) of that and what the PLANK KEPT, together.", () -> {
            leaves(2, 0, 1, 0, 0, 0);
            leaves(2, 99, 98, 99, 98, 99);
            leaves(2, 20, 61, 99, 40, 59);
        });
        Edges.term("DANCER: as a MARCHER, and 3.", () -> leaves(3, 20, 61, 99, 43, 65));
        Edges.term("MOURNER: as a DANCER.", () -> leaves(4, 20, 61, 99, 43, 64));
        Edges.term("CALM: 20.", () -> leaves(5, 99, 0, 99, 20, 20));
    }

    private static void crossing() {
        Edges.term("where it FALLS it crosses no further (that PLANK and those behind stay as they are; FELL is 1 more)",
            EdgesOfTerms::crossesNoFurther);
        Edges.term("Behind it its GAIT is as it was ahead of all PLANKS, if it fell; else as it has become.", () -> {
            Run.with("walker(1, 60)", "plank(11, 99)").due("cross(0)", 11).asks("of(0, 1)", 60);
            Run.with("walker(1, 60)").due("cross(0)", 12).asks("of(0, 1)", 51);
        });
        Edges.term("CROSSINGS are one more (99999 at most), whoever falls.", EdgesOfTerms::manyCrossings);
        Edges.term("z is told (1 at first)", () -> Run.with().asks("count(6)", 1).due("seed(1)", 1));
        Edges.term("each makes it z * 1103515245 + 12345 (an int), and gives z >>> 8.", EdgesOfTerms::drawsWrapAround);
        Edges.term("ORDERS are compared by who is first in them, then second, and so on.", EdgesOfTerms::comparedOrders);
    }

    private static void crossesNoFurther() {
        Run first = Run.with("walker(2, 60)", "plank(0, 81)").due("cross(0)", 0).asks("of(0, 3)", 1);
        first.keeps(81, 50);
        Run last = Run.with("walker(2, 60)", "plank(11, 81)").due("cross(0)", 11).asks("of(0, 3)", 1);
        last.keeps(55, 55, 55, 55, 55, 55, 55, 55, 55, 55, 55, 81);
        Run none = Run.with("walker(2, 60)", "plank(11, 80)").due("cross(0)", 12).asks("of(0, 3)", 0);
        none.keeps(55, 55, 55, 55, 55, 55, 55, 55, 55, 55, 55, 70);
    }

    /** So many need more than 512 calls; the bound is held all the same. */
    private static void manyCrossings() {
        Run.with("walker(2, 60)").asks("now(0)", 0).due("cross(0)", 12).asks("now(0)", 1).does("plank(0, 99)")
            .due("cross(0)", 0).asks("now(0)", 2);
        FeetBridge x = EdgesOfCrossings.crossed(99998);
        Due.due("cross(0)", x.cross(0), 12);
        Due.due("now(0)", x.now(0), 99999);
        Due.due("cross(0)", x.cross(0), STATE);
        Due.due("now(0)", x.now(0), 99999);
    }

    private static void drawsWrapAround() {
        int[] seeds = {1, 0, -1, 2, 3, Integer.MAX_VALUE, Integer.MIN_VALUE, 1 << 30, 123456789};
        for (int seed : seeds) {
            int first = (int) (seed * 1103515245L + 12345L);
            int second = (int) (first * 1103515245L + 12345L);
            int plank = (int) ((first & 0xffffffffL) / 256 % 12);
            int gait = (int) ((second & 0xffffffffL) / 256 % 100);
            Run.with("seed(" + seed + ")").due("strangers(1)", 550 + gait).asks("keeps(" + plank + ")", gait)
                .due("seed(5)", second);
        }
    }

    private static void comparedOrders() {
        // 0 leaves 80, where 1 falls; 2 leaves 50 again. Orders: 0 2 1, 1 0 2, 1 2 0, 2 1 0.
        Run r = Run.with("walker(6, 80)", "walker(0, 30)", "walker(6, 50)").asks("orders(7)", 4);
        r.asks("order(7, 0)", 0).asks("order(7, 1)", 2).asks("order(7, 2)", 1);
        // On the 60 that 0 leaves now, 1 doesn't fall: 0 1 2 is the first.
        r.does("change(0, 1, 60)").asks("order(7, 0)", 0).asks("order(7, 1)", 1).asks("order(7, 2)", 2);
    }

    private static void tenSpots() {
        Run r = Run.with("walker(0, 50)").refuses("hold(-1, 0)", BEYOND).refuses("hold(10, 0)", BEYOND);
        for (int spot = 0; spot < 10; spot++) {
            r.refuses("as(" + spot + ", 0)", MISSING).due("hold(" + spot + ", 0)", 1).asks("as(" + spot + ", 0)", 0);
            r.asks("count(7)", spot + 1);
        }
    }

    private static void fourSheets() {
        Run r = Run.with().refuses("load(-1)", BEYOND).refuses("load(4)", BEYOND);
        for (int s = 0; s < 4; s++) {
            r.refuses("load(" + s + ")", MISSING).refuses("sheet(" + s + ", 8, 41)", BEYOND);
            r.due("sheet(" + s + ", 8, 40)", 40).due("write(" + s + ", 39, 1)", 1);
            r.refuses("write(" + s + ", 40, 1)", BEYOND);
        }
    }
}
