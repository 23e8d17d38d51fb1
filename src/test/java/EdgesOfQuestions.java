/** The edges of promises 11 to 19: what would be. */
final class EdgesOfQuestions {
    private static final int BEYOND = Due.BEYOND;
    private static final int NONE = Due.NONE;

    private EdgesOfQuestions() {
    }

    static void all() {
        ways();
        repeated();
        fitting();
    }

    /** Whoever isn't there is refused, with nobody there, with one, and with six. */
    private static void refusesOthers(String name, String rest) {
        Run r = Run.with().refuses(name + "(0" + rest, BEYOND).refuses(name + "(-1" + rest, BEYOND);
        r.does("walker(5, 50)").refuses(name + "(1" + rest, BEYOND).refuses(name + "(-1" + rest, BEYOND);
        r.refuses(name + "(" + Integer.MIN_VALUE + rest, BEYOND).refuses(name + "(" + Integer.MAX_VALUE + rest, BEYOND);
        for (int i = 1; i < 6; i++) {
            r.refuses(name + "(" + i + rest, BEYOND).does("walker(5, 50)");
        }
        r.refuses(name + "(6" + rest, BEYOND).refuses(name + "(32" + rest, BEYOND).refuses(name + "(-1" + rest, BEYOND);
    }

    private static void ways() {
        Edges.promise(11, "12, or the PLANK on which one would FALL, if it crossed now.", () -> {
            for (int plank = 0; plank < 12; plank++) {
                Run r = Run.with("walker(2, 50)", "plank(" + plank + ", 71)").asks("would(0)", plank);
                r.does("plank(" + plank + ", 70)").asks("would(0)", 12);
            }
        });
        Edges.promise(11, "BEYOND.", () -> refusesOthers("would", ")"));
        Edges.promise(12, "Its GAIT behind such a crossing.", () -> {
            Run r = Run.with("walker(0, 70)", "walker(5, 99)").asks("becomes(0)", 53).asks("becomes(1)", 39);
            r.does("plank(11, 84)").asks("becomes(0)", 70).does("plank(0, 0)").asks("becomes(0)", 70);
        });
        Edges.promise(12, "BEYOND.", () -> refusesOthers("becomes", ")"));
        Edges.promise(13, "What a PLANK would KEEP, if one crossed now.", () -> {
            Run r = Run.with("walker(6, 70)", "change(0, 2, 0)", "plank(6, 29)");
            for (int plank = 0; plank < 12; plank++) {
                r.asks("leaves(0, " + plank + ")", plank < 6 ? 70 : plank == 6 ? 29 : 50);
            }
            r.does("plank(6, 30)").asks("leaves(0, 6)", 70).asks("leaves(0, 11)", 70);
            r.does("plank(0, 0)").asks("leaves(0, 0)", 0).asks("leaves(0, 11)", 50);
        });
        Edges.promise(13, "BEYOND.", () -> {
            refusesOthers("leaves", ", 0)");
            Run.with("walker(0, 50)").refuses("leaves(0, -1)", BEYOND).refuses("leaves(0, 12)", BEYOND)
                .refuses("leaves(0, " + Integer.MIN_VALUE + ")", BEYOND)
                .refuses("leaves(0, " + Integer.MAX_VALUE + ")", BEYOND).refuses("leaves(1, 12)", BEYOND);
        });
        Edges.promise(14, "12, or the PLANK on which one would FALL, if another one crossed ahead of it.",
            EdgesOfQuestions::afterAnother);
        Edges.promise(14, "BEYOND: also one and the same.", () -> {
            Run r = Run.with("walker(5, 50)").refuses("after(0, 0)", BEYOND).does("walker(5, 50)");
            r.refuses("after(0, 0)", BEYOND).refuses("after(1, 1)", BEYOND).asks("after(0, 1)", 12);
            r.refuses("after(2, 0)", BEYOND).refuses("after(0, 2)", BEYOND).refuses("after(-1, 0)", BEYOND);
            r.refuses("after(0, -1)", BEYOND).refuses("after(-1, -1)", BEYOND).refuses("after(2, 2)", BEYOND);
            r.refuses("after(0, " + Integer.MAX_VALUE + ")", BEYOND).refuses("after(0, " + Integer.MIN_VALUE + ")", BEYOND);
        });
    }

    private static void afterAnother() {
        Run r = Run.with("walker(6, 71)", "walker(2, 50)", "walker(6, 70)").asks("after(1, 0)", 0).asks("after(1, 2)", 12);
        // The first one falls on PLANK 4: what it left ahead of that stays, the rest is as it was.
        r.lays(72, 50, 50, 50, 0, 50).does("change(0, 2, 0)").asks("would(1)", 0).asks("after(1, 0)", 0);
        r.does("change(0, 1, 70)").asks("would(0)", 4).asks("after(1, 0)", 4);
        // It falls at once: the other one finds all as it was.
        r.lays(0, 50).asks("would(0)", 0).does("change(1, 2, 99)").asks("after(1, 0)", 12);
        r.does("plank(11, 50)", "change(1, 2, 30)", "plank(0, 50)", "plank(11, 9)");
        r.does("change(0, 1, 50)").asks("would(0)", 11).asks("after(1, 0)", 11);
    }

    private static void repeated() {
        Edges.promise(15, "How often one can cross, again and again, ahead of its first FALL", () -> {
            Run r = Run.with("walker(0, 81)").asks("often(0)", 0).does("change(0, 1, 80)").asks("often(0)", 60);
            // A DRUNK that bears 4 leaves 5 more than its own gait everywhere; one that bears 5 goes on.
            r.does("change(0, 0, 1)", "change(0, 1, 50)", "change(0, 2, 9)").asks("often(0)", 1);
            r.does("change(0, 2, 10)").asks("often(0)", 60);
            Run twice = Run.with("walker(4, 31)", "change(0, 2, 0)").lays(27, 24, 18, 12, 12, 5, 6, 5, 2, 7, 8, 9);
            twice.asks("often(0)", 2).due("cross(0)", 12).asks("often(0)", 1).due("cross(0)", 12).asks("often(0)", 0);
            twice.asks("of(0, 3)", 0);
        });
        Edges.promise(15, "(0 to 60; 60, if it doesn't FALL by then)", () -> {
            Run.with("walker(5, 99)").asks("often(0)", 60).asks("of(0, 1)", 99).asks("now(0)", 0).keeps(50);
            Run.with("walker(5, 99)", "plank(0, 0)").due("cross(0)", 12).asks("often(0)", 60);
        });
        Edges.promise(15, "BEYOND.", () -> refusesOthers("often", ")"));
    }

    private static void fitting() {
        Edges.promise(16, "The least BALANCE (0 to 99) with which one would cross now.", () -> {
            Run r = Run.with("walker(0, 50)").asks("balanceFor(0)", 0).does("change(0, 1, 0)").lays(99);
            r.asks("balanceFor(0)", 99).does("plank(0, 98)").asks("balanceFor(0)", 98);
            Run.with("walker(2, 0)").lays(89).asks("balanceFor(0)", 99).lays(1).asks("balanceFor(0)", 11).lays(0)
                .asks("balanceFor(0)", 0);
            Run.with("walker(5, 0)").lays(99).asks("balanceFor(0)", 0).does("change(0, 2, 99)").asks("balanceFor(0)", 0);
        });
        Edges.promise(16, "BEYOND.", () -> refusesOthers("balanceFor", ")"));
        Edges.promise(16, "NONE: with none.", () -> {
            Run.with("walker(2, 0)").lays(90).refuses("balanceFor(0)", NONE);
            Run.with("walker(1, 0)").lays(49).asks("balanceFor(0)", 98).lays(50).refuses("balanceFor(0)", NONE);
            Run.with("walker(6, 0)").lays(89).asks("balanceFor(0)", 98).lays(90).refuses("balanceFor(0)", NONE);
        });
        Edges.promise(17, "How many GAITS (0 to 99) there are with which one would cross now.", () -> {
            Run r = Run.with("walker(5, 50)").asks("gaits(0)", 100).does("change(0, 0, 2)").asks("gaits(0)", 41);
            r.does("change(0, 2, 10)").asks("gaits(0)", 1).does("plank(11, 51)").asks("gaits(0)", 0);
            r.lays(0).asks("gaits(0)", 1).lays(99).asks("gaits(0)", 1).does("change(0, 2, 11)").asks("gaits(0)", 2);
        });
        Edges.promise(17, "BEYOND.", () -> refusesOthers("gaits", ")"));
        Edges.promise(18, "The least of them.", () -> {
            Run r = Run.with("walker(2, 50)", "change(0, 2, 10)").asks("gaitFor(0)", 50).lays(0).asks("gaitFor(0)", 0);
            r.lays(99).asks("gaitFor(0)", 99).does("change(0, 2, 11)").asks("gaitFor(0)", 98);
        });
        Edges.promise(18, "BEYOND.", () -> refusesOthers("gaitFor", ")"));
        Edges.promise(18, "NONE.", () -> Run.with("walker(2, 50)", "plank(0, 30)", "plank(11, 70)").asks("gaitFor(0)", 50)
            .does("plank(11, 71)").refuses("gaitFor(0)", NONE).asks("gaits(0)", 0));
        Edges.promise(19, "KINDS as which one would cross now, as a set.", () -> {
            Run r = Run.with("walker(1, 0)").lays(0).asks("kindsFor(0)", 127).does("plank(0, 16)");
            r.asks("kindsFor(0)", 125).does("plank(0, 21)").asks("kindsFor(0)", 121).does("plank(0, 31)");
            r.asks("kindsFor(0)", 120).does("plank(0, 41)").asks("kindsFor(0)", 96).does("plank(0, 56)");
            r.asks("kindsFor(0)", 32).does("night(1)").asks("kindsFor(0)", 48).asks("of(0, 0)", 1);
        });
        Edges.promise(19, "BEYOND.", () -> refusesOthers("kindsFor", ")"));
    }
}
