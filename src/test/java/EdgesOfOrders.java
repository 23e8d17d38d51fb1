/** The edges of promises 20 to 25: orders, and planks laid new. */
final class EdgesOfOrders {
    private static final int BEYOND = Due.BEYOND;
    private static final int NONE = Due.NONE;
    private static final int LEAST = Integer.MIN_VALUE;
    private static final int GREATEST = Integer.MAX_VALUE;

    private EdgesOfOrders() {
    }

    static void all() {
        first();
        counted();
        greatest();
        laid();
    }

    private static Run six(int kind, int gait) {
        Run r = new Run();
        for (int i = 0; i < 6; i++) {
            r.does("walker(" + kind + ", " + gait + ")");
        }
        return r;
    }

    private static void refusesSets(String name, String rest) {
        Run r = Run.with().refuses(name + "(1" + rest, BEYOND).refuses(name + "(-1" + rest, BEYOND);
        r.does("walker(5, 50)", "walker(5, 50)").refuses(name + "(4" + rest, BEYOND).refuses(name + "(7" + rest, BEYOND);
        r.refuses(name + "(" + LEAST + rest, BEYOND).refuses(name + "(" + GREATEST + rest, BEYOND);
        r.refuses(name + "(-1" + rest, BEYOND).refuses(name + "(-2" + rest, BEYOND);
        six(5, 50).refuses(name + "(64" + rest, BEYOND).refuses(name + "(127" + rest, BEYOND)
            .refuses(name + "(-1" + rest, BEYOND).refuses(name + "(" + (LEAST + 1) + rest, BEYOND);
    }

    private static void first() {
        Edges.promise(20, "In the first ORDER of a set of WALKERS in which nobody FALLS: who is at a place (from 0).", () -> {
            Run r = six(5, 50);
            for (int place = 0; place < 6; place++) {
                r.asks("order(63, " + place + ")", place);
            }
            r.asks("order(42, 0)", 1).asks("order(42, 1)", 3).asks("order(42, 2)", 5).asks("order(32, 0)", 5);
            // 0 crosses only behind 1.
            Run.with("walker(0, 81)", "walker(6, 80)").asks("order(3, 0)", 1).asks("order(3, 1)", 0);
        });
        Edges.promise(20, "BEYOND: of those that there are, the place one of theirs.", () -> {
            refusesSets("order", ", 0)");
            Run.with().refuses("order(0, 0)", BEYOND).does("walker(5, 50)", "walker(5, 50)").refuses("order(0, 0)", BEYOND)
                .refuses("order(3, 2)", BEYOND).refuses("order(2, 1)", BEYOND).refuses("order(3, -1)", BEYOND)
                .refuses("order(3, " + LEAST + ")", BEYOND).refuses("order(3, " + GREATEST + ")", BEYOND);
            six(5, 50).refuses("order(63, 6)", BEYOND).refuses("order(0, -1)", BEYOND);
        });
        Edges.promise(20, "NONE: there is none.", () -> {
            Run.with("walker(0, 81)").refuses("order(1, 0)", NONE);
            // Each of them alone crosses, but not one behind the other.
            Run.with("walker(2, 31)", "walker(2, 69)", "change(0, 2, 29)", "change(1, 2, 29)").asks("order(1, 0)", 0)
                .asks("order(2, 0)", 1).refuses("order(3, 0)", NONE).refuses("order(3, 1)", NONE);
        });
    }

    private static void counted() {
        Edges.promise(21, "How many such ORDERS there are.", () -> {
            Run.with().asks("orders(0)", 1).does("walker(0, 99)").asks("orders(0)", 1).asks("orders(1)", 0);
            six(5, 50).asks("orders(63)", 720).asks("orders(62)", 120).asks("orders(32)", 1);
            Run.with("walker(0, 81)", "walker(6, 80)").asks("orders(3)", 1);
        });
        Edges.promise(21, "BEYOND: of those that there are.", () -> refusesSets("orders", ")"));
        Edges.promise(22, "The fewest that fall in an ORDER of a set of WALKERS.", () -> {
            Run.with().asks("fewest(0)", 0);
            six(2, 99).asks("fewest(0)", 0).asks("fewest(32)", 1).asks("fewest(63)", 6);
            six(5, 99).asks("fewest(63)", 0);
            Run.with("walker(0, 81)", "walker(6, 80)").asks("fewest(1)", 1).asks("fewest(3)", 0);
            // 0 falls on PLANK 1 always, but what it leaves on PLANK 0 lets 1 cross.
            Run fallen = Run.with("walker(6, 65)", "walker(2, 50)", "change(0, 2, 0)", "change(1, 2, 40)");
            fallen.lays(85, 20, 50).asks("would(0)", 1).asks("would(1)", 0).asks("after(1, 0)", 12);
            fallen.asks("fewest(1)", 1).asks("fewest(2)", 1).asks("fewest(3)", 1).asks("orders(3)", 0);
        });
        Edges.promise(22, "BEYOND: of those that there are.", () -> refusesSets("fewest", ")"));
    }

    private static void greatest() {
        Edges.promise(23, "The greatest set of WALKERS (most of them; of several the least)", () -> {
            Run.with().asks("most()", 0).does("walker(0, 81)").asks("most()", 0);
            six(5, 50).asks("most()", 63);
            six(2, 99).asks("most()", 0);
            // Either alone, but not both: the least counts.
            Run.with("walker(2, 31)", "walker(2, 69)", "change(0, 2, 29)", "change(1, 2, 29)").asks("most()", 1);
            // Two are more than one, though the set of one is less.
            Run.with("walker(2, 31)", "walker(2, 69)", "walker(2, 69)", "change(0, 2, 29)", "change(1, 2, 29)",
                "change(2, 2, 29)").asks("most()", 6);
        });
        Edges.promise(23, "that can cross in an ORDER in which nobody FALLS.", () -> {
            // 0 crosses only behind 1; 2 lets nobody cross behind it, so that it is last.
            Run.with("walker(0, 81)", "walker(6, 80)", "walker(5, 30)").asks("most()", 7).asks("orders(7)", 1)
                .does("change(1, 1, 50)").asks("most()", 6);
            Run.with("walker(0, 81)", "walker(6, 80)").asks("most()", 3);
        });
        Edges.promise(23, "of several the least", () -> {
            // 0 ahead of 2 (5) is found first, but 1 ahead of 0 (3) is less; no others, and not all three.
            Run r = Run.with("walker(2, 30)", "walker(2, 60)", "walker(2, 31)", "change(0, 2, 45)", "change(1, 2, 25)",
                "change(2, 2, 20)").asks("orders(5)", 1).asks("order(5, 0)", 0).asks("orders(3)", 1);
            r.asks("order(3, 0)", 1).asks("orders(6)", 0).asks("orders(7)", 0).asks("most()", 3);
            // 2 alone, tried last, is less than no greater set; 0 alone is less, but not as great.
            Run.with("walker(0, 99)", "walker(2, 60)", "walker(6, 20)").asks("orders(6)", 1).asks("most()", 6);
        });
    }

    private static void laid() {
        Edges.promise(24, "The set of fewest PLANKS (at most 3) that, KEEPING 50 now, let one cross", () -> {
            Run r = Run.with("walker(2, 50)").asks("lay(0)", 0).does("plank(11, 71)").asks("lay(0)", 2048);
            r.does("plank(10, 29)").asks("lay(0)", 3072).does("plank(9, 99)").asks("lay(0)", 3584);
            r.does("plank(9, 50)", "plank(0, 0)").asks("lay(0)", 3073).does("change(0, 2, 0)", "change(0, 0, 5)");
            r.asks("lay(0)", 0);
            // PLANK 2 alone is enough (4); PLANKS 0 and 1 would do as well, but are two, though their set (3) is less.
            Run.with("walker(1, 42)").lays(42, 42, 42, 60).asks("would(0)", 3).asks("lay(0)", 4);
        });
        Edges.promise(24, "of several the least", () -> {
            // A DRUNK of 42 comes near enough to 58 by any one of PLANKS 0 to 2.
            Run r = Run.with("walker(1, 42)").lays(42, 42, 42, 58).asks("would(0)", 3).asks("lay(0)", 1);
            r.lays(42, 42, 42, 59).asks("lay(0)", 2);
            // PLANKS 1 and 2 (6) would do, 0 and 3 (9), and 1 and 3 (10); no others.
            Run.with("walker(1, 30)", "change(0, 2, 57)").lays(28, 68, 65, 17, 42, 50).asks("lay(0)", 6);
        });
        Edges.promise(24, "BEYOND.", () -> Run.with().refuses("lay(0)", BEYOND).does("walker(5, 50)")
            .refuses("lay(1)", BEYOND).refuses("lay(-1)", BEYOND).refuses("lay(" + LEAST + ")", BEYOND)
            .refuses("lay(" + GREATEST + ")", BEYOND));
        Edges.promise(24, "NONE.", () -> {
            Run r = Run.with("walker(2, 50)", "plank(0, 99)", "plank(5, 99)", "plank(11, 99)").asks("lay(0)", 2081);
            r.does("plank(6, 71)").refuses("lay(0)", NONE).does("plank(6, 70)").asks("lay(0)", 2081);
            // Laid new, a PLANK is too far for it: so no set helps.
            Run.with("walker(2, 99)").refuses("lay(0)", NONE);
        });
        Edges.promise(25, "The PLANK that, KEEPING 50 now, lets fewest FALL, if each crossed now alone.", () -> {
            Run.with().asks("best()", 0).lays(99).asks("best()", 0);
            Run r = Run.with("walker(2, 50)").asks("best()", 0).does("plank(11, 71)").asks("best()", 11);
            r.does("plank(3, 71)").asks("best()", 0).does("plank(3, 70)").asks("best()", 11);
            six(2, 99).asks("best()", 0);
            // PLANK 4 helps whom 20 suits, PLANK 7 whom 65 suits.
            Run more = Run.with("walker(2, 20)", "walker(2, 65)", "walker(2, 65)", "change(0, 2, 45)",
                "change(1, 2, 45)", "change(2, 2, 45)").lays(40).does("plank(4, 60)", "plank(7, 20)");
            more.asks("now(2)", 7).asks("best()", 7).does("change(1, 1, 20)").asks("best()", 4);
            // Each of them helps one: the least counts, whoever is last.
            Run even = Run.with("walker(2, 20)", "walker(2, 65)", "change(0, 2, 45)", "change(1, 2, 45)").lays(40);
            even.does("plank(4, 60)", "plank(7, 20)").asks("now(2)", 3).asks("best()", 4);
            even.does("change(0, 1, 65)", "change(1, 1, 20)").asks("best()", 4);
            // Five fall anyway, the sixth doesn't, if PLANK 9 is new.
            six(2, 99).does("change(3, 1, 50)", "plank(9, 99)").asks("best()", 9);
        });
    }
}
