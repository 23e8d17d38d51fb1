/** The edges of promises 1 to 10: a new object, planks, walkers, crossings. */
final class EdgesOfCrossings {
    private static final int BEYOND = Due.BEYOND;
    private static final int FULL = Due.FULL;
    private static final int NONE = Due.NONE;
    private static final int STATE = Due.STATE;
    private static final int MISSING = Due.MISSING;
    private static final String LEAST = String.valueOf(Integer.MIN_VALUE);
    private static final String GREATEST = String.valueOf(Integer.MAX_VALUE);

    private EdgesOfCrossings() {
    }

    static void all() {
        newObject();
        planks();
        walkers();
        crossings();
        nows();
    }

    private static void newObject() {
        Edges.promise(1, "All as at first", () -> {
            Run r = Run.with().keeps(50).asks("count(0)", 0).asks("count(4)", 600).asks("count(6)", 1)
                .asks("count(7)", 0).asks("now(3)", 0).asks("status(-1)", 0);
            for (int i = 0; i < 7; i++) {
                r.asks("status(" + i + ")", 0);
            }
            for (int s = 0; s < 4; s++) {
                r.refuses("load(" + s + ")", MISSING);
            }
            for (int spot = 0; spot < 10; spot++) {
                r.refuses("as(" + spot + ", 0)", MISSING);
            }
        });
        Edges.promise(1, "no WALKERS", () -> Run.with().asks("count(1)", 0).refuses("of(0, 0)", BEYOND)
            .refuses("hold(0, 0)", BEYOND).asks("now(2)", 0).asks("now(4)", 0).asks("now(5)", 0)
            .asks("count(2)", 0).asks("count(3)", 0));
        Edges.promise(1, "THE TAPE is empty", () -> Run.with().asks("count(5)", 0).asks("wipe()", 0).asks("text()", -1));
        Edges.promise(1, "no image is kept", () -> Run.with().refuses("undo()", NONE).asks("tear()", 0));
        // No object knows of another.
        Edges.promise(1, "All as at first; no WALKERS;", () -> {
            Run.with("plank(0, 9)", "walker(0, 3)", "night(1)", "seed(4)", "image()", "sheet(0, 8, 1)", "feed(1, 1)");
            Run.with().keeps(50).asks("count(1)", 0).asks("now(3)", 0).asks("count(6)", 1).asks("count(5)", 0)
                .refuses("undo()", NONE).refuses("load(0)", MISSING);
        });
    }

    private static void planks() {
        Edges.promise(2, "What a PLANK KEEPS becomes v: what it was.", () -> Run.with().due("plank(0, 0)", 50)
            .due("plank(0, 99)", 0).due("plank(11, 99)", 50).due("plank(11, 0)", 99).due("plank(0, 99)", 99)
            .keeps(99, 50, 50, 50, 50, 50, 50, 50, 50, 50, 50, 0));
        Edges.promise(2, "BEYOND.", () -> Run.with().refuses("plank(-1, 5)", BEYOND).refuses("plank(12, 5)", BEYOND)
            .refuses("plank(0, -1)", BEYOND).refuses("plank(11, 100)", BEYOND).refuses("plank(0, " + LEAST + ")", BEYOND)
            .refuses("plank(0, " + GREATEST + ")", BEYOND).refuses("plank(" + LEAST + ", 5)", BEYOND)
            .refuses("plank(" + GREATEST + ", 5)", BEYOND).refuses("plank(12, 100)", BEYOND));
        Edges.promise(3, "What a PLANK KEEPS.", () -> Run.with("plank(0, 1)", "plank(11, 2)").asks("keeps(0)", 1)
            .asks("keeps(1)", 50).asks("keeps(10)", 50).asks("keeps(11)", 2));
        Edges.promise(3, "BEYOND.", () -> Run.with().refuses("keeps(-1)", BEYOND).refuses("keeps(12)", BEYOND)
            .refuses("keeps(" + LEAST + ")", BEYOND).refuses("keeps(" + GREATEST + ")", BEYOND));
    }

    private static void walkers() {
        Edges.promise(4, "A new WALKER: the number.", () -> {
            Run r = Run.with().due("walker(0, 0)", 0).due("walker(6, 99)", 1).due("walker(1, 50)", 2);
            r.asks("of(0, 0)", 0).asks("of(0, 1)", 0).asks("of(1, 0)", 6).asks("of(1, 1)", 99);
        });
        Edges.promise(4, "BEYOND.", () -> Run.with().refuses("walker(-1, 5)", BEYOND).refuses("walker(7, 5)", BEYOND)
            .refuses("walker(0, -1)", BEYOND).refuses("walker(0, 100)", BEYOND).refuses("walker(" + LEAST + ", 5)", BEYOND)
            .refuses("walker(" + GREATEST + ", 5)", BEYOND).refuses("walker(0, " + LEAST + ")", BEYOND)
            .refuses("walker(0, " + GREATEST + ")", BEYOND).due("walker(0, 50)", 0));
        Edges.promise(4, "FULL.", () -> {
            Run r = Run.with("walker(0, 1)", "walker(0, 2)", "walker(0, 3)", "walker(0, 4)", "walker(0, 5)");
            r.due("walker(0, 6)", 5).refuses("walker(0, 7)", FULL).refuses("walker(6, 99)", FULL).asks("of(5, 1)", 6);
        });
        Edges.promise(5, "what 0 KIND, 1 GAIT, 2 BALANCE, 3 FELL, 4 what it BEARS", () -> Run.with("walker(1, 7)",
            "walker(2, 9)", "change(1, 2, 77)", "change(1, 3, 5)").asks("of(1, 0)", 2).asks("of(1, 1)", 9)
            .asks("of(1, 2)", 77).asks("of(1, 3)", 5).asks("of(1, 4)", 67).asks("of(0, 4)", 15));
        Edges.promise(5, "5 PLANKS on which it would FALL, if it stood there now, as a set.", () -> {
            Run r = Run.with("walker(0, 50)").asks("of(0, 5)", 0);
            r.does("plank(0, 80)", "plank(1, 81)", "plank(10, 19)", "plank(11, 20)").asks("of(0, 5)", 2 + 1024);
            r.lays(99).asks("of(0, 5)", 4095).does("plank(11, 69)").asks("of(0, 5)", 2047);
        });
        Edges.promise(5, "BEYOND.", () -> Run.with().refuses("of(0, 0)", BEYOND).does("walker(0, 50)")
            .refuses("of(-1, 0)", BEYOND).refuses("of(1, 0)", BEYOND).refuses("of(0, -1)", BEYOND)
            .refuses("of(0, 6)", BEYOND).refuses("of(" + LEAST + ", 0)", BEYOND).refuses("of(" + GREATEST + ", 0)", BEYOND)
            .refuses("of(0, " + LEAST + ")", BEYOND).refuses("of(0, " + GREATEST + ")", BEYOND));
        Edges.promise(6, "KIND (what 0), GAIT (1), BALANCE (2), FELL (3) of a WALKER becomes v: what it was.",
            EdgesOfCrossings::changes);
        Edges.promise(6, "BEYOND.", EdgesOfCrossings::changesBeyond);
        Edges.promise(7, "NIGHT becomes v: what it was.", () -> Run.with().due("night(0)", 0).due("night(1)", 0)
            .due("night(1)", 1).due("night(0)", 1).asks("now(3)", 0));
        Edges.promise(7, "BEYOND.", () -> Run.with("night(1)").refuses("night(-1)", BEYOND).refuses("night(2)", BEYOND)
            .refuses("night(" + LEAST + ")", BEYOND).refuses("night(" + GREATEST + ")", BEYOND).asks("now(3)", 1));
    }

    private static void changes() {
        int[] most = {6, 99, 99, 9999};
        int[] first = {1, 50, 30, 0};
        for (int what = 0; what < 4; what++) {
            Run r = Run.with("walker(0, 7)", "walker(1, 50)", "walker(0, 7)");
            r.due("change(1, " + what + ", " + most[what] + ")", first[what]);
            r.due("change(1, " + what + ", " + most[what] + ")", most[what]);
            r.due("change(1, " + what + ", 0)", most[what]).asks("of(1, " + what + ")", 0);
            int[] other = {0, 7, 30, 0};
            for (int each = 0; each < 4; each++) {
                r.asks("of(0, " + each + ")", other[each]).asks("of(2, " + each + ")", other[each]);
                r.asks("of(1, " + each + ")", each == what ? 0 : first[each]);
            }
        }
    }

    private static void changesBeyond() {
        int[] most = {6, 99, 99, 9999};
        Run r = Run.with().refuses("change(0, 0, 0)", BEYOND).does("walker(0, 50)");
        for (int what = 0; what < 4; what++) {
            String begin = "change(0, " + what + ", ";
            r.refuses(begin + "-1)", BEYOND).refuses(begin + (most[what] + 1) + ")", BEYOND);
            r.refuses(begin + LEAST + ")", BEYOND).refuses(begin + GREATEST + ")", BEYOND);
        }
        r.refuses("change(0, -1, 0)", BEYOND).refuses("change(0, 4, 0)", BEYOND).refuses("change(0, 5, 0)", BEYOND);
        r.refuses("change(-1, 0, 0)", BEYOND).refuses("change(1, 0, 0)", BEYOND).refuses("change(6, 0, 0)", BEYOND);
        r.refuses("change(" + LEAST + ", 0, 0)", BEYOND).refuses("change(" + GREATEST + ", 0, 0)", BEYOND);
        r.refuses("change(0, " + LEAST + ", 0)", BEYOND).refuses("change(0, " + GREATEST + ", 0)", BEYOND);
    }

    private static void crossings() {
        Edges.promise(8, "A WALKER crosses: 12, or the PLANK on which it FALLS.", () -> {
            for (int plank = 0; plank < 12; plank++) {
                Run r = Run.with("walker(6, 50)", "change(0, 2, 0)", "plank(" + plank + ", 91)").due("cross(0)", plank);
                r.does("plank(" + plank + ", 90)").due("cross(0)", 12).keeps(50);
            }
        });
        Edges.promise(8, "BEYOND.", () -> Run.with().refuses("cross(0)", BEYOND).does("walker(0, 50)")
            .refuses("cross(-1)", BEYOND).refuses("cross(1)", BEYOND).refuses("cross(6)", BEYOND)
            .refuses("cross(" + LEAST + ")", BEYOND).refuses("cross(" + GREATEST + ")", BEYOND));
        Edges.promise(8, "STATE: CROSSINGS would be above 99999.", EdgesOfCrossings::crossesFull);
        Edges.promise(9, "A set of WALKERS crosses by numbers: how many fell.", EdgesOfCrossings::crowds);
        Edges.promise(9, "BEYOND: of those that there are.", () -> {
            Run r = Run.with().refuses("crowd(1)", BEYOND).refuses("crowd(-1)", BEYOND);
            r.does("walker(5, 20)", "walker(5, 20)").refuses("crowd(4)", BEYOND).refuses("crowd(7)", BEYOND);
            r.refuses("crowd(-1)", BEYOND).refuses("crowd(" + LEAST + ")", BEYOND).refuses("crowd(64)", BEYOND);
            r.refuses("crowd(" + GREATEST + ")", BEYOND).due("crowd(3)", 0);
            r.does("walker(5, 20)", "walker(5, 20)", "walker(5, 20)", "walker(5, 20)");
            r.refuses("crowd(64)", BEYOND).refuses("crowd(127)", BEYOND).due("crowd(63)", 0);
        });
        Edges.promise(9, "STATE: CROSSINGS would be above 99999.", EdgesOfCrossings::crowdsFull);
    }

    /** Six CALM ones who have crossed so often: many more calls than an object is promised for. */
    static FeetBridge crossed(int times) {
        FeetBridge x = new FeetBridge();
        for (int i = 0; i < 6; i++) {
            x.walker(5, 20);
        }
        for (int i = 0; i < times / 6; i++) {
            x.crowd(63);
        }
        for (int i = 0; i < times % 6; i++) {
            x.cross(0);
        }
        return x;
    }

    private static void crossesFull() {
        FeetBridge x = crossed(99998);
        x.change(1, 1, 33);
        Due.due("cross(0)", x.cross(0), 12);
        x.plank(5, 44);
        Due.due("cross(6)", x.cross(6), BEYOND);
        Due.due("cross(1)", x.cross(1), STATE);
        Due.due("status(4)", x.status(4), 1);
        Due.due("now(0)", x.now(0), 99999);
        Due.due("of(1, 1)", x.of(1, 1), 33);
        Due.due("keeps(5)", x.keeps(5), 44);
        Due.due("would(1)", x.would(1), 12);
    }

    private static void crowds() {
        Run.with().asks("crowd(0)", 0);
        Run.with("walker(0, 99)").asks("crowd(0)", 0).due("crowd(1)", 1).asks("now(0)", 1).asks("of(0, 3)", 1);
        // 1 falls on what 0 leaves; 0 wouldn't on what 1 leaves.
        Run r = Run.with("walker(6, 90)", "walker(0, 50)", "walker(6, 50)").due("crowd(3)", 1).asks("of(1, 3)", 1);
        r.keeps(90).due("crowd(6)", 1).asks("of(1, 3)", 2).keeps(50).due("crowd(2)", 0).asks("now(0)", 5);
        Run all = new Run();
        for (int i = 0; i < 6; i++) {
            all.does("walker(2, 99)");
        }
        all.due("crowd(63)", 6).asks("now(0)", 6).asks("now(4)", 6).keeps(50);
        all.due("crowd(32)", 1).asks("of(5, 3)", 2).asks("of(0, 3)", 1);
    }

    private static void crowdsFull() {
        FeetBridge x = crossed(99996);
        x.change(0, 1, 33);
        x.plank(5, 44);
        Due.due("crowd(15)", x.crowd(15), STATE);
        Due.due("crowd(63)", x.crowd(63), STATE);
        Due.due("crowd(64)", x.crowd(64), BEYOND);
        Due.due("status(4)", x.status(4), 2);
        Due.due("now(0)", x.now(0), 99996);
        Due.due("of(0, 1)", x.of(0, 1), 33);
        Due.due("keeps(5)", x.keeps(5), 44);
        Due.due("crowd(56)", x.crowd(56), 0);
        Due.due("now(0)", x.now(0), 99999);
        Due.due("crowd(1)", x.crowd(1), STATE);
        Due.due("crowd(0)", x.crowd(0), 0);
    }

    private static void nows() {
        Edges.promise(10, "What 0 CROSSINGS, 1 what all PLANKS KEEP together", () -> {
            Run.with("walker(0, 99)").due("cross(0)", 0).due("cross(0)", 0).asks("now(0)", 2).asks("now(1)", 600)
                .lays(0).asks("now(1)", 0).lays(99).asks("now(1)", 1188);
        });
        Edges.promise(10, "2 WALKERS that would FALL, if each crossed now alone, as a set", () -> {
            // Behind 0 the other one would cross; alone it doesn't.
            Run r = Run.with().asks("now(2)", 0).does("walker(6, 90)", "walker(0, 90)").asks("now(2)", 2);
            r.asks("after(1, 0)", 12).does("change(0, 2, 0)", "plank(11, 0)").asks("now(2)", 3);
            r.lays(90).asks("now(2)", 0);
        });
        Edges.promise(10, "3 NIGHT, 4 FELL of all together, 5 GAIT of all together", () -> {
            Run r = Run.with().asks("now(3)", 0).asks("now(4)", 0).asks("now(5)", 0).does("night(1)").asks("now(3)", 1);
            for (int i = 0; i < 6; i++) {
                r.does("walker(0, 99)", "change(" + i + ", 3, 9999)");
            }
            r.asks("now(4)", 59994).asks("now(5)", 594).does("change(5, 3, 0)", "change(5, 1, 0)");
            r.asks("now(4)", 49995).asks("now(5)", 495);
        });
        Edges.promise(10, "BEYOND.", () -> Run.with("walker(0, 1)").refuses("now(-1)", BEYOND).refuses("now(6)", BEYOND)
            .refuses("now(" + LEAST + ")", BEYOND).refuses("now(" + GREATEST + ")", BEYOND));
    }
}
