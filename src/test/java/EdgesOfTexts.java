/** The edges of the tape and of texts: the words of the Terms, and promises 34 to 36. */
final class EdgesOfTexts {
    private static final int BEYOND = Due.BEYOND;
    private static final int FULL = Due.FULL;
    private static final int LEAST = Integer.MIN_VALUE;
    private static final int GREATEST = Integer.MAX_VALUE;

    private EdgesOfTexts() {
    }

    static void all() {
        tokens();
        items();
        faults();
        feeds();
        texts();
    }

    private static void tokens() {
        Edges.term("A TEXT is read from THE TAPE (bytes, at most 120).", () -> {
            Run r = Run.with().feeds(" ".repeat(117)).asks("count(5)", 117).refuses("feed(0, 4)", FULL);
            r.feeds("day").asks("count(5)", 120).refuses("feed(0, 1)", FULL).due("text()", 1).asks("count(5)", 0);
        });
        Edges.term("TOKENS, each as long as can be", () -> {
            Run r = Run.with().faults("nightday", 0).faults("plank 12", 6).faults("plank 1 100", 8).faults("new1 2", 5);
            r.reads("plank 1 23", 1).asks("keeps(1)", 23).reads("plank11 9;new0", 2).asks("keeps(11)", 9);
            r.reads("drunk gait5balance7", 1).asks("of(0, 1)", 5).asks("of(0, 2)", 7).faults("drunkgait 5", 0);
            r.reads("calm gait 5balance 7;night;day", 3);
        });
        Edges.term("WORDS (letters a to z)", () -> Run.with().faults("nighta", 0).faults("nightz", 0).faults("night`", 5)
            .faults("night{", 5).faults("NIGHT", 0).faults("nighT", 0).faults("nightA", 5).faults("night_", 5)
            .faults("night" + (char) 225, 5).faults("night" + (char) 255, 5).faults("night" + (char) 128, 5));
        Edges.term("NUMBERS (digits, 999 at most)", () -> {
            Run r = Run.with().reads("plank 0 90", 1).asks("keeps(0)", 90).reads("plank 0 0", 1).asks("keeps(0)", 0);
            r.faults("plank 0 999", 8).faults("plank 0 1000", 8).faults("plank 0 9999999999", 8);
            // 7 more than 2 to the 8th, 16th, 32nd and 64th: none of them wraps around to 7.
            r.faults("plank 0 263", 8).faults("plank 0 65543", 8).faults("plank 0 4294967303", 8);
            r.faults("plank 0 18446744073709551623", 8).faults("plank 0 1000000000000000000000007", 8);
            r.faults("plank 0 1/", 9).faults("plank 0 1:", 9).faults("plank 0 -1", 8).faults("plank 0 +1", 8);
            r.reads("plank 007 00042", 1).asks("keeps(7)", 42);
        });
        Edges.term("SIGN ;", () -> Run.with().faults(";", 0).faults(";;", 0).faults("night;;day", 6).faults("night,day", 5)
            .faults("night:day", 5).reads("night;day", 2));
        Edges.term("blanks may stand between", () -> {
            Run r = Run.with().reads("  night  ;  day  ", 2).reads("plank   3   7", 1).asks("keeps(3)", 7);
            r.reads("day;" + " ".repeat(111) + "night", 2).reads("night" + " ".repeat(115), 1);
            r.faults("ni ght", 0).faults("plank 1 1 1", 10).faults("night\t", 5).faults("night\n", 5);
            r.faults("night" + (char) 0, 5).faults("night" + (char) 160, 5).faults("\tnight", 0);
        });
    }

    private static void items() {
        Edges.term("TEXT: ITEM { ; ITEM }.", () -> Run.with().faults("", 0).reads("day", 1).reads("day;day", 2)
            .faults(";day", 0).faults("day;", 4).faults("day day", 4).faults("day;;day", 4)
            .reads("day;".repeat(29) + "day", 30));
        Edges.term("walker, drunk, marcher, dancer, mourner, calm or carried", () -> {
            String[] words = {"walker", "drunk", "marcher", "dancer", "mourner", "calm", "carried"};
            for (int kind = 0; kind < 7; kind++) {
                String word = words[kind];
                Run.with().reads(word, 1).asks("of(0, 0)", kind).asks("of(0, 1)", 50).asks("of(0, 2)", 30)
                    .faults(word + "s", 0).faults(word.substring(0, word.length() - 1), 0)
                    .faults(word.substring(1), 0).faults(word + " " + word, word.length() + 1).asks("count(1)", 1);
                for (int i = 0; i < word.length(); i++) {
                    Run.with().faults(word.substring(0, i) + "x" + word.substring(i + 1), 0);
                }
            }
        });
        Edges.term("perhaps gait and a NUMBER (0 to 99)", () -> {
            Run r = Run.with().reads("calm gait 0;calm gait 99", 2).asks("of(0, 1)", 0).asks("of(1, 1)", 99);
            r.asks("of(0, 2)", 30).faults("calm gait 100", 10).faults("calm gait", 9).faults("calm gait calm", 10);
            r.faults("calm gait;", 9).faults("calm 5", 5).faults("calm gait 1 2", 12).faults("calm gait 1 gait 2", 12);
            r.faults("gait 5", 0).faults("calm gaits 5", 5).faults("calm gai 5", 5);
        });
        Edges.term("perhaps balance and a NUMBER (0 to 99): a new one", () -> {
            Run r = Run.with().reads("calm balance 0;calm balance 99;calm gait 3 balance 4", 3).asks("of(0, 2)", 0);
            r.asks("of(1, 2)", 99).asks("of(1, 1)", 50).asks("of(2, 1)", 3).asks("of(2, 2)", 4);
            r.faults("calm balance 100", 13).faults("calm balance", 12).faults("calm balance gait", 13);
            r.faults("calm balance 5 gait 5", 15).faults("calm balance 5 balance 5", 15).faults("balance 5", 0);
            r.faults("calm gait 5 balance 100", 20).faults("calm gait 5 balance", 19).faults("calm gait balance 5", 10);
        });
        Edges.term("plank, two NUMBERS (a PLANK, what it KEEPS)", () -> {
            Run r = Run.with().reads("plank 0 99;plank 11 0", 2).keeps(99, 50, 50, 50, 50, 50, 50, 50, 50, 50, 50, 0);
            r.faults("plank 12 0", 6).faults("plank 0 100", 8).faults("plank", 5).faults("plank 1", 7);
            r.faults("plank;", 5).faults("plank 1;", 7).faults("plank a 1", 6).faults("plank 1 a", 8);
            r.faults("plank 1 2 3", 10).faults("planks 1 2", 0).faults("plan 1 2", 0);
        });
        Edges.term("new, a NUMBER (a PLANK that KEEPS 50)", () -> {
            Run r = Run.with().lays(7).reads("new 0;new 11", 2).keeps(50, 7, 7, 7, 7, 7, 7, 7, 7, 7, 7, 50);
            r.faults("new 12", 4).faults("new", 3).faults("new;", 3).faults("new a", 4).faults("new 1 2", 6);
            r.faults("news 1", 0).faults("ne 1", 0);
        });
        Edges.term("night or day", () -> {
            Run r = Run.with().reads("night", 1).asks("now(3)", 1).reads("night", 1).asks("now(3)", 1);
            r.reads("day", 1).asks("now(3)", 0).reads("day;night", 2).asks("now(3)", 1).reads("night;day", 2);
            r.asks("now(3)", 0).faults("night 1", 6).faults("day 0", 4).faults("nigh", 0).faults("da", 0).faults("days", 0);
        });
    }

    private static void faults() {
        Edges.term("FAULT: the place (from 0) of the first byte of the first TOKEN that can't stand there", () -> Run.with()
            .faults("x", 0).faults(" x", 1).faults("day x y", 4).faults("plank 99 999", 6).faults("day;x;y", 4)
            .faults("calm gait 100;plank 99", 10).faults(" ".repeat(119) + "x", 119));
        Edges.term("a NUMBER that isn't as told", () -> Run.with().faults("plank 12 5", 6).faults("plank 5 100", 8)
            .faults("new 12", 4).faults("calm gait 100", 10).faults("calm balance 100", 13).faults("5", 0).faults("day 5", 4));
        Edges.term("another WORD", () -> Run.with().faults("gait", 0).faults("balance", 0).faults("a", 0).faults("z", 0)
            .faults("calm night", 5).faults("day;wiper", 4)
            .faults("xight", 0).faults("nighx", 0).faults("xay", 0).faults("dax", 0).faults("xew 1", 0).faults("nex 1", 0)
            .faults("xlank 1 1", 0).faults("planx 1 1", 0).faults("calm xait 1", 5).faults("calm gaix 1", 5)
            .faults("calm xalance 1", 5).faults("calm balancx 1", 5).faults("plank night", 6).faults("x".repeat(120), 0));
        Edges.term("a byte that begins no TOKEN", () -> Run.with().faults(".", 0).faults("day.", 3).faults("day ;.", 5)
            .faults("plank .", 6).faults("plank 1.5", 7).faults("calm gait -5", 10).faults("" + (char) 0, 0)
            .faults("" + (char) 255, 0).faults("calm." + "x", 4));
        Edges.term("the WORD of a 7th WALKER: its own", () -> {
            Run r = Run.with().faults("calm;calm;calm;calm;calm;calm;calm", 30);
            r.faults("calm;calm;calm;calm;calm;calm;calm gait 100", 30).asks("count(1)", 0);
            r.reads("calm;calm;calm;calm;calm", 5).faults("calm;carried", 5).faults("day;calm;  drunk gait 5", 11);
            r.reads("calm;day", 2).faults("walker", 0).faults("day;walker", 4).asks("count(1)", 6).reads("day", 1);
        });
        Edges.term("or how many bytes there are if it ends too early", () -> Run.with().faults("", 0).faults(" ", 1)
            .faults("   ", 3).faults("day;", 4).faults("day; ", 5).faults("plank", 5).faults("plank ", 6).faults("plank 1", 7)
            .faults("plank 1 ", 8).faults("new", 3).faults("new ", 4).faults("calm gait", 9).faults("calm gait ", 10)
            .faults("calm balance", 12).faults("calm gait 5 balance", 19).faults(" ".repeat(120), 120)
            .faults(" ".repeat(116) + "day;", 120).faults(" ".repeat(117) + "new", 120));
    }

    private static void feeds() {
        Edges.promise(34, "THE TAPE gets the n lowest bytes of a number behind it, the highest of these first (n 1 to 4): how "
            + "many it has.", () -> {
                // 'xday': the three lowest bytes are a TEXT; 'xcalm' comes by 'c' and 'alm;'.
                Run r = Run.with().due("feed(" + 0x78646179 + ", 3)", 3).due("text()", 1);
                r.due("feed(" + 0x78786363 + ", 1)", 1).due("feed(" + 0x616c6d3b + ", 4)", 5);
                r.due("feed(" + 0x78786461 + ", 2)", 7).due("feed(" + 0x79 + ", 1)", 8).due("text()", 2);
                r.asks("of(0, 0)", 5).due("feed(-1, 4)", 4).due("text()", -1);
                // Bytes above 127 stay what they are, and none of them is a blank or a letter.
                r.due("feed(" + 0xa064e179 + ", 4)", 4).due("text()", -1);
            });
        Edges.promise(34, "BEYOND: n.", () -> Run.with("feed(1, 1)").refuses("feed(0, 0)", BEYOND).refuses("feed(0, 5)", BEYOND)
            .refuses("feed(0, -1)", BEYOND).refuses("feed(0, " + LEAST + ")", BEYOND)
            .refuses("feed(0, " + GREATEST + ")", BEYOND).asks("count(5)", 1));
        Edges.promise(34, "FULL.", () -> {
            for (int n = 1; n <= 4; n++) {
                Run r = Run.with().feeds("plank 3 7" + " ".repeat(112 - n)).refuses("feed(0, " + n + ")", FULL);
                r.due("wipe()", 121 - n).feeds("plank 3 7" + " ".repeat(111 - n)).due("feed(538976288, " + n + ")", 120);
                r.refuses("feed(538976288, 1)", FULL).refuses("feed(538976288, 4)", FULL).due("text()", 1).asks("keeps(3)", 7);
            }
        });
        Edges.promise(35, "THE TAPE is empty: how many it had.", () -> {
            Run r = Run.with().asks("wipe()", 0).feeds("x").due("wipe()", 1).asks("count(5)", 0).asks("text()", -1);
            r.feeds(" ".repeat(120)).due("wipe()", 120).asks("wipe()", 0).feeds("day").due("text()", 1);
        });
    }

    private static void texts() {
        Edges.promise(36, "THE TAPE is a TEXT, and empty then", () -> {
            Run r = Run.with().feeds("night").due("text()", 1).asks("count(5)", 0).asks("text()", -1).asks("now(3)", 1);
            r.feeds("day;" + " ".repeat(111) + "night").due("text()", 2).asks("count(5)", 0);
        });
        Edges.promise(36, "all that it tells is so, item by item: how many ITEMS.", () -> {
            Run r = Run.with().reads("plank 3 7;plank 3 8;plank 4 9;new 4;night;day;calm;drunk gait 2", 8);
            r.keeps(50, 50, 50, 8, 50).asks("now(3)", 0).asks("of(0, 0)", 5).asks("of(1, 0)", 1).asks("of(1, 1)", 2);
            r.reads("new 3;plank 3 1;night;calm", 4).keeps(50, 50, 50, 1, 50).asks("now(3)", 1).asks("of(2, 0)", 5);
        });
        Edges.promise(36, "With a FAULT: -1 less the FAULT", () -> {
            Run r = Run.with().feeds("x").due("text()", -1).feeds("day x").due("text()", -5);
            r.feeds(" ".repeat(120)).due("text()", -121);
        });
        Edges.promise(36, "(nothing changes but that THE TAPE is empty; no finding)", () -> {
            Run r = Run.with("walker(0, 9)", "image()", "hold(1, 0)", "seed(5)", "night(1)").fills(0, 8, 1, 2);
            r.faults("calm;plank 3 7;day;new 4;x", 25).faults("calm;plank 3 7;day;", 19).asks("count(5)", 0);
            r.asks("count(1)", 1).asks("now(3)", 1).keeps(50).asks("status(-1)", 0);
        });
    }
}
