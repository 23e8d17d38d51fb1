/** The edges of promises 26 to 33: who is taken for whom, what swayed, strangers. */
final class EdgesOfSway {
    private static final int BEYOND = Due.BEYOND;
    private static final int NONE = Due.NONE;
    private static final int STATE = Due.STATE;
    private static final int MISSING = Due.MISSING;
    private static final int LEAST = Integer.MIN_VALUE;
    private static final int GREATEST = Integer.MAX_VALUE;

    private EdgesOfSway() {
    }

    static void all() {
        likeness();
        fits();
        gaits();
        whos();
        strangers();
        odds();
        seeds();
    }

    private static void likeness() {
        Edges.promise(26, "by how much what each PLANK would KEEP, if one crossed now, and if another one did, differs, of "
            + "all PLANKS together", () -> {
                Run r = Run.with("walker(6, 50)", "walker(6, 50)", "walker(5, 50)").asks("unlike(0, 1)", 0);
                r.asks("unlike(0, 2)", 360).asks("unlike(2, 0)", 360).does("change(1, 1, 49)").asks("unlike(0, 1)", 12);
                // Ones that fall at once leave all as it is.
                r.does("plank(0, 99)", "change(0, 2, 0)", "change(1, 2, 0)").asks("unlike(0, 1)", 0);
                r.asks("unlike(0, 2)", 79 + 11 * 30).does("change(0, 1, 99)", "change(0, 2, 30)");
                r.asks("unlike(0, 1)", 11 * 49);
                Run.with("walker(6, 0)", "walker(6, 99)", "change(0, 2, 99)", "change(1, 2, 99)").asks("unlike(0, 1)", 1188);
            });
        Edges.promise(26, "BEYOND: also one and the same.", () -> {
            Run r = Run.with().refuses("unlike(0, 1)", BEYOND).does("walker(5, 50)").refuses("unlike(0, 0)", BEYOND);
            r.refuses("unlike(0, 1)", BEYOND).refuses("unlike(1, 0)", BEYOND).does("walker(5, 50)");
            r.refuses("unlike(1, 1)", BEYOND).refuses("unlike(0, 2)", BEYOND).refuses("unlike(2, 0)", BEYOND);
            r.refuses("unlike(0, -1)", BEYOND).refuses("unlike(-1, 0)", BEYOND).refuses("unlike(-1, -1)", BEYOND);
            r.refuses("unlike(" + LEAST + ", 0)", BEYOND).refuses("unlike(0, " + GREATEST + ")", BEYOND);
        });
        Edges.promise(27, "The other one from whom one is UNLIKE by least.", () -> {
            Run r = Run.with("walker(6, 50)", "walker(6, 53)", "walker(6, 47)", "walker(6, 51)").asks("taken(0)", 3);
            r.asks("taken(1)", 3).asks("taken(2)", 0).asks("taken(3)", 0);
            // 1 and 2 are as far from 0: the least counts; and nobody is taken for itself.
            r.does("change(3, 1, 99)").asks("taken(0)", 1).does("change(1, 1, 54)").asks("taken(0)", 2);
            r.does("change(2, 1, 54)").asks("taken(2)", 1).asks("taken(1)", 2);
        });
        Edges.promise(27, "BEYOND.", () -> Run.with().refuses("taken(0)", BEYOND).does("walker(0, 50)")
            .refuses("taken(1)", BEYOND).refuses("taken(-1)", BEYOND).does("walker(0, 50)").refuses("taken(2)", BEYOND)
            .refuses("taken(" + LEAST + ")", BEYOND).refuses("taken(" + GREATEST + ")", BEYOND));
        Edges.promise(27, "NONE: there is no other one.", () -> Run.with("walker(0, 50)").refuses("taken(0)", NONE)
            .does("walker(5, 99)").asks("taken(0)", 1).asks("taken(1)", 0));
    }

    private static Run swaying() {
        return Run.with("walker(0, 50)", "walker(2, 50)", "walker(5, 50)");
    }

    private static void refusesSheets(String name, String rest) {
        swaying().refuses(name + "(-1" + rest, BEYOND).refuses(name + "(4" + rest, BEYOND)
            .refuses(name + "(" + LEAST + rest, BEYOND).refuses(name + "(" + GREATEST + rest, BEYOND);
    }

    private static void refusesMissing(String name, String rest) {
        Run r = swaying();
        for (int s = 0; s < 4; s++) {
            String call = name + "(" + s + rest;
            r.refuses(call, MISSING).fills(s, 8, -1).does(call);
            r.does("sheet(" + s + ", 0, 1)").refuses(call, MISSING);
        }
    }

    private static void fits() {
        Edges.promise(28, "How many GAITS (0 to 99) one could have, so that behind its crossing PLANKS 0, 1, .. KEEP what a "
            + "sheet tells", () -> {
                // 50 is left by 50 itself and where all who fall at once leave it: 0 to 19 and 81 to 99.
                Run r = swaying().fills(0, 8, 50).asks("fits(0, 0)", 40).asks("fits(0, 1)", 61).asks("fits(0, 2)", 0);
                r.fills(0, 8, 20).asks("fits(0, 0)", 1).asks("fits(0, 2)", 100).fills(0, 8, 19).asks("fits(0, 0)", 0);
                r.does("change(0, 2, 99)").lays(0).fills(0, 8, 0).asks("fits(0, 0)", 1).fills(0, 8, 99).asks("fits(0, 0)", 1);
                r.fills(0, 32, 100).asks("fits(0, 0)", 0).fills(0, 32, 306).asks("fits(0, 0)", 0);
            });
        Edges.promise(28, "-1: any", () -> {
            Run r = swaying().fills(0, 8, -1).asks("fits(0, 0)", 100).fills(0, 16, -1, 20, -1).asks("fits(0, 2)", 100);
            r.fills(0, 32, -1, 21, -1).asks("fits(0, 2)", 0).fills(0, 32, -2).asks("fits(0, 2)", 0);
            r.fills(0, 8, 255).asks("fits(0, 0)", 100).fills(0, 16, 255).asks("fits(0, 0)", 0);
        });
        Edges.promise(28, "no more than 12 numbers", () -> {
            Run r = swaying().does("sheet(0, 8, 0)").asks("fits(0, 0)", 100);
            int[] twelve = {20, 20, 20, 20, 20, 20, 20, 20, 20, 20, 20, 20};
            r.fills(0, 8, twelve).asks("fits(0, 2)", 100).does("write(0, 11, 21)").asks("fits(0, 2)", 0);
        });
        Edges.promise(28, "BEYOND: no such sheet.", () -> refusesSheets("fits", ", 0)"));
        Edges.promise(28, "MISSING.", () -> refusesMissing("fits", ", 0)"));
        Edges.promise(28, "BEYOND: no such one.", () -> swaying().does("sheet(0, 8, 1)").refuses("fits(0, 3)", BEYOND)
            .refuses("fits(0, -1)", BEYOND).refuses("fits(0, " + LEAST + ")", BEYOND)
            .refuses("fits(0, " + GREATEST + ")", BEYOND).does("sheet(0, 8, 13)").refuses("fits(0, 3)", BEYOND));
        Edges.promise(28, "STATE: there are more.", () -> swaying().does("sheet(0, 8, 13)").refuses("fits(0, 0)", STATE)
            .does("sheet(0, 32, 40)").refuses("fits(0, 0)", STATE).does("sheet(0, 8, 12)").asks("fits(0, 0)", 0));
    }

    private static void gaits() {
        Edges.promise(29, "The least of them.", () -> {
            Run r = swaying().fills(0, 8, 50).asks("gait(0, 0)", 0).fills(0, 8, 20).asks("gait(0, 0)", 20);
            r.asks("gait(0, 2)", 0).does("change(0, 2, 99)").lays(0).fills(0, 8, 99).asks("gait(0, 0)", 99);
            r.does("sheet(0, 8, 0)").asks("gait(0, 0)", 0).fills(0, 8, -1).asks("gait(0, 0)", 0);
            // MARCHERS of 40 and 41 leave 45 on 50.
            r.lays(50).fills(0, 16, 45).asks("gait(0, 1)", 40).asks("fits(0, 1)", 2);
        });
        Edges.promise(29, "BEYOND, MISSING, BEYOND, STATE likewise.", () -> {
            refusesSheets("gait", ", 0)");
            refusesMissing("gait", ", 0)");
            Run r = swaying().does("sheet(0, 8, 13)").refuses("gait(0, 3)", BEYOND).refuses("gait(0, -1)", BEYOND);
            r.refuses("gait(0, " + LEAST + ")", BEYOND).refuses("gait(0, " + GREATEST + ")", BEYOND);
            r.refuses("gait(0, 0)", STATE).refuses("gait(1, 3)", MISSING).refuses("gait(4, 3)", BEYOND);
            r.does("sheet(0, 8, 12)").refuses("gait(0, 0)", NONE);
        });
        Edges.promise(29, "NONE.", () -> swaying().fills(0, 8, 19).refuses("gait(0, 0)", NONE).fills(0, 8, -2)
            .refuses("gait(0, 0)", NONE).fills(0, 8, 100).refuses("gait(0, 0)", NONE).fills(0, 8, 21)
            .refuses("gait(0, 2)", NONE));
    }

    private static void whos() {
        Edges.promise(30, "WALKERS by whose crossing now it would be so (GAITS as they are), as a set.", () -> {
            Run.with().does("sheet(0, 8, 0)").asks("who(0)", 0).does("sheet(0, 8, 12)").asks("who(0)", 0);
            Run r = swaying().does("sheet(0, 8, 0)").asks("who(0)", 7).fills(0, 8, -1).asks("who(0)", 7);
            r.fills(0, 8, 50).asks("who(0)", 3).fills(0, 8, 20).asks("who(0)", 4).fills(0, 8, 21).asks("who(0)", 0);
            r.fills(0, 8, 50, -1, -1, -1, -1, -1, -1, -1, -1, -1, -1, 50).asks("who(0)", 3);
            r.does("write(0, 11, 20)").asks("who(0)", 0).does("write(0, 0, -1)").asks("who(0)", 4);
            Run six = Run.with("walker(5, 1)", "walker(5, 1)", "walker(5, 1)", "walker(5, 1)", "walker(5, 1)");
            six.does("walker(0, 50)").fills(0, 8, 50).asks("who(0)", 32).fills(0, 8, 20).asks("who(0)", 31);
        });
        Edges.promise(30, "BEYOND: no such sheet.", () -> refusesSheets("who", ")"));
        Edges.promise(30, "MISSING.", () -> refusesMissing("who", ")"));
        Edges.promise(30, "STATE likewise.", () -> swaying().does("sheet(0, 8, 13)").refuses("who(0)", STATE)
            .does("sheet(0, 8, 40)").refuses("who(0)", STATE).does("sheet(0, 8, 12)").asks("who(0)", 0));
    }

    private static void strangers() {
        Edges.promise(31, "n times (1 to 20) two draws", () -> {
            for (int n : new int[] {1, 2, 19, 20}) {
                int z = 1;
                int[] row = {50, 50, 50, 50, 50, 50, 50, 50, 50, 50, 50, 50};
                int sum = 0;
                for (int i = 0; i < n; i++) {
                    int first = (int) (z * 1103515245L + 12345L);
                    z = (int) (first * 1103515245L + 12345L);
                    row[(first >>> 8) % 12] = (z >>> 8) % 100;
                }
                for (int keeps : row) {
                    sum += keeps;
                }
                Run.with().due("strangers(" + n + ")", sum).asks("count(6)", z).keeps(row);
            }
        });
        Edges.promise(31, "BEYOND.", () -> Run.with().refuses("strangers(0)", BEYOND).refuses("strangers(21)", BEYOND)
            .refuses("strangers(-1)", BEYOND).refuses("strangers(" + LEAST + ")", BEYOND)
            .refuses("strangers(" + GREATEST + ")", BEYOND).asks("count(6)", 1));
    }

    private static void odds() {
        Edges.promise(32, "The odds that n (0 to 14) such first draws are all of PLANKS on which a WALKER wouldn't FALL, if "
            + "it stood there now", () -> {
                Run r = Run.with("walker(0, 50)", "plank(0, 81)").asks("odds(0, 14, 0)", 379749833583241L);
                r.asks("odds(0, 14, 1)", 1283918464548864L).asks("odds(0, 0, 0)", 1).asks("odds(0, 0, 1)", 1);
                r.asks("odds(0, 1, 0)", 11).asks("odds(0, 1, 1)", 12).does("plank(0, 80)").asks("odds(0, 14, 0)", 1);
                r.asks("odds(0, 14, 1)", 1).lays(99).asks("odds(0, 1, 0)", 0).asks("odds(0, 1, 1)", 1);
                r.asks("odds(0, 14, 0)", 0).asks("odds(0, 14, 1)", 1).asks("odds(0, 0, 0)", 1).asks("odds(0, 0, 1)", 1);
            });
        Edges.promise(32, "a fraction in lowest terms: above (what 0), below the line (1).", () -> {
            int[] above = {0, 1, 1, 1, 1, 5, 1, 7, 2, 3, 5, 11, 1};
            int[] below = {1, 12, 6, 4, 3, 12, 2, 12, 3, 4, 6, 12, 1};
            for (int good = 0; good <= 12; good++) {
                Run r = Run.with("walker(0, 50)").lays(99);
                for (int plank = 0; plank < good; plank++) {
                    r.does("plank(" + plank + ", 50)");
                }
                long up = 1;
                long down = 1;
                for (int n = 0; n <= 14; n += 2) {
                    r.due("odds(0, " + n + ", 0)", up).due("odds(0, " + n + ", 1)", down);
                    up *= above[good] * above[good];
                    down *= below[good] * below[good];
                }
                r.asks("odds(0, 1, 0)", above[good]).asks("odds(0, 1, 1)", below[good]);
            }
        });
        Edges.promise(32, "BEYOND.", () -> Run.with().refuses("odds(0, 0, 0)", BEYOND).does("walker(0, 50)")
            .refuses("odds(1, 0, 0)", BEYOND).refuses("odds(-1, 0, 0)", BEYOND).refuses("odds(0, -1, 0)", BEYOND)
            .refuses("odds(0, 15, 0)", BEYOND).refuses("odds(0, 0, -1)", BEYOND).refuses("odds(0, 0, 2)", BEYOND)
            .refuses("odds(" + LEAST + ", 0, 0)", BEYOND).refuses("odds(" + GREATEST + ", 0, 0)", BEYOND)
            .refuses("odds(0, " + LEAST + ", 1)", BEYOND).refuses("odds(0, " + GREATEST + ", 1)", BEYOND)
            .refuses("odds(0, 0, " + LEAST + ")", BEYOND).refuses("odds(0, 0, " + GREATEST + ")", BEYOND));
    }

    private static void seeds() {
        Edges.promise(33, "z becomes v: what it was.", () -> {
            Run r = Run.with().due("seed(" + LEAST + ")", 1).due("seed(" + GREATEST + ")", LEAST);
            r.due("seed(0)", GREATEST).due("seed(-1)", 0).asks("count(6)", -1);
            // What z was is no finding, even where it looks like one.
            r.due("seed(-1000001)", -1).due("seed(-1000007)", -1000001).due("seed(3)", -1000007);
            r.asks("status(-1)", 0).asks("status(0)", 0).asks("status(6)", 0);
        });
    }
}
