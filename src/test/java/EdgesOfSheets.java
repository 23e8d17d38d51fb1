/** The edges of promises 37 to 48: spots, sheets, images. */
final class EdgesOfSheets {
    private static final int BEYOND = Due.BEYOND;
    private static final int FULL = Due.FULL;
    private static final int KIND = Due.KIND;
    private static final int NONE = Due.NONE;
    private static final int STATE = Due.STATE;
    private static final int MISSING = Due.MISSING;
    private static final int SIZE = Due.SIZE;
    private static final int LEAST = Integer.MIN_VALUE;
    private static final int GREATEST = Integer.MAX_VALUE;

    private EdgesOfSheets() {
    }

    static void all() {
        spots();
        sheets();
        writes();
        copies();
        loads();
        judges();
        images();
        counts();
        status();
    }

    /** No such sheet; one that never was; one that isn't any more. */
    private static void refusesSheets(String name, String rest) {
        Run.with("walker(5, 5)").refuses(name + "(-1" + rest, BEYOND).refuses(name + "(4" + rest, BEYOND)
            .refuses(name + "(" + LEAST + rest, BEYOND).refuses(name + "(" + GREATEST + rest, BEYOND);
    }

    private static void refusesMissing(String name, String rest) {
        Run r = Run.with("walker(5, 5)");
        for (int s = 0; s < 4; s++) {
            r.refuses(name + "(" + s + rest, MISSING).does("sheet(" + s + ", 16, 3)", name + "(" + s + rest);
            r.does("sheet(" + s + ", 0, 3)").refuses(name + "(" + s + rest, MISSING);
        }
    }

    private static void spots() {
        Edges.promise(37, "A SPOT holds a WALKER, or nothing (-1): 1.", () -> {
            Run r = Run.with("walker(0, 1)", "walker(0, 2)").due("hold(0, 1)", 1).asks("as(0, 0)", 1).due("hold(0, 0)", 1);
            r.asks("as(0, 0)", 0).due("hold(9, 0)", 1).asks("count(7)", 2).due("hold(0, -1)", 1).asks("count(7)", 1);
            r.refuses("as(0, 0)", MISSING).asks("hold(0, -1)", 1).asks("hold(9, 0)", 1).asks("as(9, 0)", 0);
        });
        Edges.promise(37, "BEYOND.", () -> {
            Run r = Run.with().refuses("hold(0, 0)", BEYOND).refuses("hold(10, -1)", BEYOND).refuses("hold(-1, -1)", BEYOND);
            r.does("walker(0, 1)", "hold(0, 0)").refuses("hold(0, 1)", BEYOND).refuses("hold(0, -2)", BEYOND);
            r.refuses("hold(-1, 0)", BEYOND).refuses("hold(10, 0)", BEYOND).refuses("hold(" + LEAST + ", 0)", BEYOND);
            r.refuses("hold(" + GREATEST + ", 0)", BEYOND).refuses("hold(0, " + LEAST + ")", BEYOND);
            r.refuses("hold(0, " + GREATEST + ")", BEYOND).asks("as(0, 0)", 0);
        });
        Edges.promise(38, "What a SPOT holds as one of a kind (0 to 6): the number of the WALKER.", () -> {
            Run r = Run.with("walker(0, 1)", "walker(6, 2)", "hold(0, 1)", "hold(9, 1)").asks("as(0, 0)", 1);
            r.asks("as(9, 6)", 1).asks("as(9, 1)", 1).does("change(1, 0, 4)").asks("as(9, 4)", 1).asks("as(9, 2)", 1);
        });
        Edges.promise(38, "BEYOND.", () -> Run.with("walker(0, 1)", "hold(0, 0)").refuses("as(-1, 0)", BEYOND)
            .refuses("as(10, 0)", BEYOND).refuses("as(0, -1)", BEYOND).refuses("as(0, 7)", BEYOND)
            .refuses("as(1, 7)", BEYOND).refuses("as(1, -1)", BEYOND).refuses("as(" + LEAST + ", 0)", BEYOND)
            .refuses("as(" + GREATEST + ", 0)", BEYOND).refuses("as(0, " + LEAST + ")", BEYOND)
            .refuses("as(0, " + GREATEST + ")", BEYOND));
        Edges.promise(38, "MISSING: it holds nothing.", () -> Run.with("walker(0, 1)").refuses("as(0, 0)", MISSING)
            .refuses("as(9, 6)", MISSING).does("hold(0, 0)").asks("as(0, 0)", 0).does("hold(0, -1)")
            .refuses("as(0, 0)", MISSING).refuses("as(0, 6)", MISSING));
        Edges.promise(38, "KIND: it isn't of that kind, nor of one under it.", () -> {
            Run r = Run.with("walker(0, 1)", "hold(0, 0)");
            for (int kind = 1; kind < 7; kind++) {
                r.refuses("as(0, " + kind + ")", KIND);
            }
            r.does("change(0, 0, 3)").asks("as(0, 3)", 0).asks("as(0, 2)", 0).asks("as(0, 0)", 0).refuses("as(0, 4)", KIND);
            r.refuses("as(0, 1)", KIND).refuses("as(0, 5)", KIND).refuses("as(0, 6)", KIND);
            r.does("change(0, 0, 1)").refuses("as(0, 6)", KIND).does("change(0, 0, 5)").refuses("as(0, 2)", KIND);
        });
    }

    private static void sheets() {
        Edges.promise(39, "A sheet has n numbers, all 0, of 8, 16 or 32 bits", () -> {
            for (int bits = 8; bits <= 32; bits *= 2) {
                Run r = Run.with().due("sheet(0, " + bits + ", 40)", 40).due("load(0)", 12).keeps(0);
                r.fills(0, bits, 1, 2, 3).due("sheet(0, " + bits + ", 2)", 2).lays(50).due("load(0)", 2).keeps(0, 0, 50);
                r.refuses("write(0, 2, 1)", BEYOND).due("sheet(0, " + bits + ", 3)", 3).due("load(0)", 3).keeps(0, 0, 0, 50);
                r.due("sheet(3, " + bits + ", 0)", 0).asks("load(3)", 0).refuses("write(3, 0, 1)", BEYOND);
            }
        });
        Edges.promise(39, "bits 0: it is MISSING: n (0 if it is MISSING).", () -> {
            Run r = Run.with().asks("sheet(0, 0, 0)", 0).asks("sheet(0, 0, 40)", 0).refuses("load(0)", MISSING);
            r.does("sheet(0, 8, 3)").due("sheet(0, 0, 3)", 0).refuses("load(0)", MISSING).refuses("write(0, 0, 1)", MISSING);
            // What it had is forgotten.
            r.fills(0, 8, 7).does("sheet(0, 0, 1)", "sheet(0, 8, 1)").loads(0, 0);
        });
        Edges.promise(39, "BEYOND: no such sheet, other bits.", () -> {
            Run r = Run.with("sheet(0, 8, 1)").refuses("sheet(-1, 8, 1)", BEYOND).refuses("sheet(4, 8, 1)", BEYOND);
            r.refuses("sheet(" + LEAST + ", 0, 1)", BEYOND).refuses("sheet(" + GREATEST + ", 0, 1)", BEYOND);
            for (int bits : new int[] {-1, 1, 7, 9, 15, 17, 24, 31, 33, 64, -8, LEAST, GREATEST}) {
                r.refuses("sheet(0, " + bits + ", 1)", BEYOND).refuses("sheet(1, " + bits + ", -1)", BEYOND);
            }
            r.refuses("sheet(4, 8, -1)", BEYOND).refuses("sheet(-1, 0, -1)", BEYOND);
        });
        Edges.promise(39, "SIZE: n is below 0 (also with bits 0).", () -> {
            Run r = Run.with("sheet(0, 8, 2)");
            for (int bits : new int[] {0, 8, 16, 32}) {
                r.refuses("sheet(0, " + bits + ", -1)", SIZE).refuses("sheet(1, " + bits + ", " + LEAST + ")", SIZE);
            }
        });
        Edges.promise(39, "BEYOND: n is above 40.", () -> {
            Run r = Run.with("sheet(0, 8, 2)");
            for (int bits : new int[] {0, 8, 16, 32}) {
                r.refuses("sheet(0, " + bits + ", 41)", BEYOND).refuses("sheet(1, " + bits + ", " + GREATEST + ")", BEYOND);
            }
            r.due("sheet(0, 8, 40)", 40);
        });
    }

    private static void writes() {
        Edges.promise(40, "Number i of a sheet becomes v (its lowest bits): 1.", () -> {
            Run r = Run.with().fills(0, 8, 0, 0, 0).due("write(0, 0, 1)", 1).due("write(0, 2, 3)", 1).loads(0, 1, 0, 3);
            r.due("write(0, 1, 256)", 1).loads(0, 1, 0, 3).due("write(0, 1, 355)", 1).loads(0, 1, 99, 3);
            // 8 bits of the least int are 0, of -206 they are 50; 16 bits of 65636 are 100, which can't be loaded.
            r.due("write(0, 1, " + LEAST + ")", 1).loads(0, 1, 0, 3).due("write(0, 1, -206)", 1).loads(0, 1, 50, 3);
            r.does("sheet(0, 16, 2)", "write(0, 0, 65586)").loads(0, 50, 0).does("write(0, 0, 306)").asks("load(0)", 0);
            r.does("write(0, 0, 65636)").asks("load(0)", 0).does("sheet(0, 32, 1)", "write(0, 0, 65586)").asks("load(0)", 0);
            r.does("write(0, 0, 98)").loads(0, 98).does("sheet(0, 8, 40)").due("write(0, 39, 5)", 1);
        });
        // 8 and 16 bits have a sign: so -1 (any) can be told by them, and 255 or 65535 are -1.
        Edges.promise(40, "v (its lowest bits)", () -> {
            Run r = Run.with("walker(0, 50)").fills(0, 8, 255).asks("who(0)", 1).fills(0, 8, 254).asks("who(0)", 0);
            r.fills(0, 16, 255).asks("who(0)", 0).fills(0, 16, 65535).asks("who(0)", 1).fills(0, 32, 65535).asks("who(0)", 0);
            r.fills(0, 32, -1).asks("who(0)", 1).fills(0, 8, 256 + 50).asks("who(0)", 1).fills(0, 16, 306).asks("who(0)", 0);
        });
        Edges.promise(40, "BEYOND: no such sheet.", () -> refusesSheets("write", ", 0, 1)"));
        Edges.promise(40, "MISSING.", () -> refusesMissing("write", ", 0, 1)"));
        Edges.promise(40, "BEYOND: no such number.", () -> {
            Run r = Run.with("sheet(0, 8, 0)").refuses("write(0, 0, 1)", BEYOND).does("sheet(0, 8, 3)");
            r.refuses("write(0, 3, 1)", BEYOND).refuses("write(0, -1, 1)", BEYOND).refuses("write(0, 39, 1)", BEYOND);
            r.refuses("write(0, " + LEAST + ", 1)", BEYOND).refuses("write(0, " + GREATEST + ", 1)", BEYOND);
            r.does("sheet(0, 8, 40)").refuses("write(0, 40, 1)", BEYOND);
        });
    }

    private static void copies() {
        Edges.promise(41, "n numbers of a sheet from one on come to another one from one on", () -> {
            Run r = Run.with().fills(0, 8, 1, 2, 3, 4).fills(1, 8, 11, 12, 13).due("copy(0, 1, 1, 0, 3)", 3);
            r.loads(1, 2, 3, 4).loads(0, 1, 2, 3, 4).due("copy(1, 2, 0, 3, 1)", 1).due("copy(1, 0, 0, 0, 3)", 3);
            r.loads(0, 2, 3, 4, 4).asks("copy(0, 0, 1, 0, 0)", 0).asks("copy(0, 4, 1, 3, 0)", 0);
            r.does("sheet(2, 32, 40)", "sheet(3, 32, 40)", "write(2, 39, 77)").due("copy(2, 0, 3, 0, 40)", 40);
            r.due("copy(3, 39, 3, 0, 1)", 1).due("load(3)", 12).keeps(77, 0);
            r.does("sheet(2, 32, 0)").asks("copy(2, 0, 3, 40, 0)", 0);
        });
        Edges.promise(41, "(as they all were)", () -> {
            Run r = Run.with().fills(0, 8, 1, 2, 3, 4, 5).due("copy(0, 0, 0, 1, 4)", 4).loads(0, 1, 1, 2, 3, 4);
            r.fills(0, 8, 1, 2, 3, 4, 5).due("copy(0, 1, 0, 0, 4)", 4).loads(0, 2, 3, 4, 5, 5);
            r.asks("copy(0, 0, 0, 0, 5)", 5).fills(1, 32, 1, 2, 3).due("copy(1, 0, 1, 1, 2)", 2).loads(1, 1, 1, 2);
        });
        Edges.promise(41, "BEYOND: no such sheet (either).", () -> {
            Run r = Run.with("sheet(0, 8, 1)");
            for (int s : new int[] {-1, 4, LEAST, GREATEST}) {
                r.refuses("copy(" + s + ", 0, 0, 0, 1)", BEYOND).refuses("copy(0, 0, " + s + ", 0, 1)", BEYOND);
                r.refuses("copy(" + s + ", 0, 1, 0, 1)", BEYOND).refuses("copy(1, 0, " + s + ", 0, 1)", BEYOND);
            }
        });
        Edges.promise(41, "MISSING: one is.", () -> {
            Run r = Run.with("sheet(0, 8, 1)").refuses("copy(0, 0, 1, 0, 1)", MISSING).refuses("copy(1, 0, 0, 0, 1)", MISSING);
            r.refuses("copy(1, 0, 2, 0, 0)", MISSING).refuses("copy(3, 0, 3, 0, 0)", MISSING);
            r.does("sheet(1, 8, 1)", "sheet(0, 0, 1)").refuses("copy(0, -1, 1, 0, 1)", MISSING);
        });
        Edges.promise(41, "KIND: they are not of as many bits.", () -> {
            Run r = Run.with("sheet(0, 8, 1)", "sheet(1, 16, 1)", "sheet(2, 32, 1)", "sheet(3, 32, 0)");
            r.refuses("copy(0, 0, 1, 0, 1)", KIND).refuses("copy(1, 0, 0, 0, 1)", KIND).refuses("copy(1, 0, 2, 0, 0)", KIND);
            r.refuses("copy(2, 0, 0, 0, 1)", KIND).refuses("copy(0, 5, 1, -5, 99)", KIND).asks("copy(2, 0, 3, 0, 0)", 0);
        });
        Edges.promise(41, "BEYOND: one has not so many, or from, to or n is below 0.", EdgesOfSheets::copiesBeyond);
    }

    private static void copiesBeyond() {
        Run r = Run.with().fills(0, 8, 1, 2, 3).fills(1, 8, 11, 12);
        r.refuses("copy(0, 0, 1, 0, 3)", BEYOND).refuses("copy(1, 0, 0, 0, 3)", BEYOND);
        r.refuses("copy(0, 2, 1, 0, 2)", BEYOND).refuses("copy(0, 0, 1, 1, 2)", BEYOND);
        r.refuses("copy(0, 3, 1, 0, 1)", BEYOND).refuses("copy(0, 0, 1, 2, 1)", BEYOND);
        r.refuses("copy(0, 4, 1, 0, 0)", BEYOND).refuses("copy(0, 0, 1, 3, 0)", BEYOND);
        r.refuses("copy(0, -1, 1, 0, 1)", BEYOND).refuses("copy(0, 0, 1, -1, 1)", BEYOND);
        r.refuses("copy(0, 0, 1, 0, -1)", BEYOND).refuses("copy(0, -1, 1, 0, 0)", BEYOND);
        r.refuses("copy(0, 3, 1, 2, -1)", BEYOND).refuses("copy(0, -1, 1, -1, 2)", BEYOND);
        // from + n wraps around.
        r.refuses("copy(0, " + GREATEST + ", 1, 0, 1)", BEYOND).refuses("copy(0, 1, 1, 0, " + GREATEST + ")", BEYOND);
        r.refuses("copy(0, 0, 1, " + GREATEST + ", 1)", BEYOND).refuses("copy(0, 0, 1, 1, " + GREATEST + ")", BEYOND);
        r.refuses("copy(0, " + GREATEST + ", 1, " + GREATEST + ", " + GREATEST + ")", BEYOND);
        r.refuses("copy(0, " + LEAST + ", 1, 0, 1)", BEYOND).refuses("copy(0, 0, 1, " + LEAST + ", 1)", BEYOND);
        r.refuses("copy(0, 0, 1, 0, " + LEAST + ")", BEYOND).refuses("copy(0, " + LEAST + ", 1, 0, " + LEAST + ")", BEYOND);
        r.due("copy(0, 1, 1, 0, 2)", 2);
    }

    private static void loads() {
        Edges.promise(42, "Numbers of a sheet, from its begin on, become what PLANKS 0, 1, .. KEEP: how many came.", () -> {
            Run r = Run.with("sheet(0, 8, 0)").asks("load(0)", 0).fills(0, 8, 0).due("load(0)", 1).keeps(0, 50);
            r.fills(0, 16, 99, 1).due("load(0)", 2).keeps(99, 1, 50);
            r.fills(0, 32, 1, 2, 3, 4, 5, 6, 7, 8, 9, 10, 11, 12).due("load(0)", 12);
            r.keeps(1, 2, 3, 4, 5, 6, 7, 8, 9, 10, 11, 12);
        });
        Edges.promise(42, "It ends at the first that isn't 0 to 99, or for which there is no PLANK.", () -> {
            Run r = Run.with().fills(0, 8, 7, 100, 8).due("load(0)", 1).keeps(7, 50).fills(0, 8, -1, 8).asks("load(0)", 0);
            r.fills(0, 32, 100, 8).asks("load(0)", 0).fills(0, 32, 3, 4, LEAST, 8).due("load(0)", 2).keeps(3, 4, 50);
            r.fills(0, 32, 5, GREATEST).due("load(0)", 1).keeps(5, 4, 50);
            r.fills(0, 8, 1, 1, 1, 1, 1, 1, 1, 1, 1, 1, 1, 1, 1).due("load(0)", 12).keeps(1);
            r.does("sheet(0, 8, 40)").due("load(0)", 12).keeps(0);
        });
        Edges.promise(42, "BEYOND: no such sheet.", () -> refusesSheets("load", ")"));
        Edges.promise(42, "MISSING.", () -> refusesMissing("load", ")"));
    }

    private static void judges() {
        Edges.promise(43, "numbers of a sheet are WALKERS, none twice, who cross now one behind the other, and none FALLS: 0 if "
            + "so", () -> {
                Run.with("sheet(0, 8, 0)").asks("judge(0)", 0);
                Run r = Run.with("walker(0, 81)", "walker(6, 80)", "walker(5, 30)").fills(0, 8, 1, 0, 2).asks("judge(0)", 0);
                r.fills(0, 32, 1).asks("judge(0)", 0).fills(0, 16, 2).asks("judge(0)", 0).does("sheet(0, 8, 0)");
                r.asks("judge(0)", 0).asks("now(0)", 0).keeps(50);
            });
        Edges.promise(43, "else 1 and the place of the first that isn't so", () -> {
            Run r = Run.with("walker(0, 81)", "walker(6, 80)", "walker(5, 30)").fills(0, 8, 0, 1).asks("judge(0)", 1);
            r.fills(0, 8, 1, 2, 0).asks("judge(0)", 3).fills(0, 8, 2, 2).asks("judge(0)", 2).fills(0, 8, 1, 2, 1);
            r.asks("judge(0)", 3).fills(0, 8, 1, 0, 1).asks("judge(0)", 3).fills(0, 8, 3).asks("judge(0)", 1);
            r.fills(0, 8, 2, -1).asks("judge(0)", 2).fills(0, 32, 2, GREATEST).asks("judge(0)", 2);
            r.fills(0, 32, LEAST).asks("judge(0)", 1).fills(0, 32, 2, 32).asks("judge(0)", 2).fills(0, 32, 1, 33);
            r.asks("judge(0)", 2).fills(0, 32, 2, 6).asks("judge(0)", 2);
            Run.with("sheet(0, 8, 1)").asks("judge(0)", 1);
            Run six = Run.with("walker(5, 1)", "walker(5, 1)", "walker(5, 1)", "walker(5, 1)", "walker(5, 1)", "walker(5, 1)");
            six.fills(0, 8, 5, 4, 3, 2, 1, 0).asks("judge(0)", 0).fills(0, 8, 5, 4, 3, 2, 1, 0, 0).asks("judge(0)", 7);
            six.fills(0, 8, 5, 4, 3, 2, 1, 0, 6).asks("judge(0)", 7);
        });
        Edges.promise(43, "BEYOND: no such sheet.", () -> refusesSheets("judge", ")"));
        Edges.promise(43, "MISSING.", () -> refusesMissing("judge", ")"));
    }

    private static Run pictured() {
        return Run.with("walker(0, 40)", "walker(1, 90)", "change(0, 2, 44)", "change(0, 3, 4)", "hold(3, 1)", "plank(5, 9)",
            "night(1)", "seed(77)", "cross(0)", "image()");
    }

    private static void dueAsPictured(Run r) {
        r.asks("count(0)", 1).asks("count(1)", 2).asks("of(0, 0)", 0).asks("of(0, 2)", 44).asks("of(0, 3)", 4);
        r.asks("of(1, 0)", 1).asks("of(1, 1)", 90).asks("of(1, 3)", 0).asks("count(7)", 1).asks("as(3, 0)", 1);
        r.asks("keeps(0)", 40).asks("keeps(5)", 47).asks("now(3)", 1).asks("count(6)", 77).asks("of(0, 1)", 47);
    }

    private static void images() {
        Edges.promise(44, "All but THE TAPE and SHEETS is kept: 1.", () -> {
            Run r = pictured().does("change(0, 0, 6)", "change(0, 1, 1)", "change(0, 2, 2)", "change(0, 3, 3)", "cross(1)",
                "walker(5, 5)", "hold(3, 2)", "hold(0, 2)", "night(0)", "strangers(20)", "change(1, 0, 0)");
            r.fills(0, 8, 1, 2).feeds("day").due("undo()", 1);
            dueAsPictured(r);
            r.asks("count(5)", 3).due("text()", 1).loads(0, 1, 2);
            // An image of now takes the place of the one before.
            r.due("image()", 1).due("undo()", 1).asks("keeps(0)", 1).asks("now(3)", 0);
        });
        Edges.promise(45, "It becomes what was kept latest (which stays): CROSSINGS.", () -> {
            Run r = pictured().does("cross(0)", "cross(1)", "plank(0, 3)").due("undo()", 1);
            dueAsPictured(r);
            r.does("cross(0)", "plank(0, 4)", "walker(5, 5)").due("undo()", 1);
            dueAsPictured(r);
            r.does("cross(0)", "image()", "cross(0)", "image()", "cross(0)").due("undo()", 3).due("undo()", 3);
            Run.with("image()", "walker(0, 5)", "hold(9, 0)", "cross(0)").due("undo()", 0).asks("count(1)", 0)
                .asks("count(7)", 0).due("walker(0, 50)", 0).asks("of(0, 3)", 0);
        });
        Edges.promise(45, "NONE: nothing is kept.", () -> {
            Run r = Run.with("plank(0, 3)").refuses("undo()", NONE).does("image()", "tear()").refuses("undo()", NONE);
            r.does("image()").due("undo()", 0).due("undo()", 0).does("tear()").refuses("undo()", NONE).asks("keeps(0)", 3);
        });
        Edges.promise(46, "Nothing is kept: 1 if something was, else 0.", () -> {
            Run r = Run.with().asks("tear()", 0).does("image()", "image()").due("tear()", 1).asks("tear()", 0);
            r.does("image()", "undo()").due("tear()", 1).asks("tear()", 0).refuses("undo()", NONE);
        });
    }

    private static void counts() {
        Edges.promise(47, "0 CROSSINGS, 1 WALKERS, 2 FELL of all together, 3 GAIT of all together, 4 what all PLANKS KEEP "
            + "together, 5 bytes of THE TAPE, 6 z, 7 SPOTS that hold something.", () -> {
                int[] none = {0, 0, 0, 0, 600, 0, 1, 0};
                Run r = new Run();
                for (int what = 0; what < 8; what++) {
                    r.asks("count(" + what + ")", none[what]);
                }
                for (int i = 0; i < 6; i++) {
                    r.does("walker(0, 99)", "change(" + i + ", 3, 9999)");
                }
                for (int spot = 0; spot < 10; spot++) {
                    r.does("hold(" + spot + ", 5)");
                }
                r.does("crowd(63)", "seed(" + LEAST + ")").lays(99).feeds(" ".repeat(120));
                long[] most = {6, 6, 59994, 594, 1188, 120, LEAST, 10};
                for (int what = 0; what < 8; what++) {
                    r.asks("count(" + what + ")", most[what]);
                }
            });
        Edges.promise(47, "BEYOND: another what.", () -> Run.with().refuses("count(-1)", BEYOND).refuses("count(8)", BEYOND)
            .refuses("count(" + LEAST + ")", BEYOND).refuses("count(" + GREATEST + ")", BEYOND));
    }

    private static void status() {
        Edges.promise(48, "How many acts answered a finding ever (undo() takes none back)", () -> {
            Run r = Run.with("image()").refuses("keeps(12)", BEYOND).refuses("load(0)", MISSING).due("undo()", 0);
            r.asks("status(-1)", 2).asks("status(0)", 1).asks("status(5)", 1).does("image()").refuses("keeps(12)", BEYOND);
            r.due("undo()", 0).due("undo()", 0).asks("status(-1)", 3).asks("status(0)", 2);
            // Neither a FAULT nor a z that looks like one is a finding.
            r.faults("x", 0).does("seed(-1000001)").asks("count(6)", -1000001).due("seed(1)", -1000001).asks("status(-1)", 3);
        });
        Edges.promise(48, "which -1: all, 0 to 6: BEYOND to SIZE.", () -> {
            Run r = Run.with("sheet(0, 8, 13)", "sheet(1, 16, 1)").feeds(" ".repeat(120));
            String[] calls = {"keeps(12)", "feed(0, 1)", "copy(0, 0, 1, 0, 1)", "undo()", "who(0)", "who(2)", "sheet(0, 8, -1)"};
            int[] findings = {BEYOND, FULL, KIND, NONE, STATE, MISSING, SIZE};
            int all = 0;
            for (int which = 0; which < 7; which++) {
                r.asks("status(" + which + ")", 0);
                for (int i = 0; i <= which; i++) {
                    r.refuses(calls[which], findings[which]);
                    all++;
                }
                r.asks("status(" + which + ")", which + 1).asks("status(-1)", all);
            }
        });
        Edges.promise(48, "BEYOND (counted from then on): another one.", () -> Run.with().refuses("status(7)", BEYOND)
            .asks("status(0)", 1).refuses("status(-2)", BEYOND).asks("status(0)", 2).asks("status(-1)", 2)
            .refuses("status(" + LEAST + ")", BEYOND).refuses("status(" + GREATEST + ")", BEYOND).asks("status(0)", 4)
            .asks("status(6)", 0));
    }
}
