/** The edges of images, sheets and counts (promises 37 to 43). */
final class SheetEdges {
    private static final int TERMS = Edges.TERMS;
    private static final int BAD = Run.BAD, STATE = Run.STATE, NONE = Run.NONE;
    private static final int LEAST = Run.LEAST, MOST = Run.MOST;

    private SheetEdges() {
    }

    static void all(Edges e) {
        keep(e);
        fullImage(e);
        back(e);
        sheet(e);
        lay(e);
        lowestBits(e);
        read(e);
        readFrom(e);
        notGranted(e);
        machine(e);
        torn(e);
        count(e);
    }

    private static void keep(Edges e) {
        e.at(37, "IMAGE k (0, 1)").tell("wish 0 0;").is("keep 0", 0).is("ask 0", 0).is("keep 1", 0).is("back 0", 0).is("back 1", 1)
            .each(BAD, "keep -1", "keep 2").is("count 3", 2);
        e.at(37, "whether there was one (1, 0)").is("keep 1", 0).is("keep 1", 1).is("keep 0", 0).is("keep 0", 1).is("count 3", 2).is("text", 0)
            .is("keep 1", 0).is("keep 1", 1).is("back 1", 0).is("keep 1", 1).is("count 3", 1);
        e.at(37, "BAD").each(BAD, "keep -1", "keep 2", "keep 32", "keep " + LEAST, "keep " + MOST).is("count 3", 0).is("keep 1", 0);
        Run run = e.at(37, "PEOPLE (who LIVES, is BARRED), what WISHES NEED, CLASHES, what HOLDS, THE LIST, DEPTH, THE PLAN, what was SEEN");
        run.tell(Texts.EACH).call("ask 7", "bar 7 true", "needs 7 0 true", "clash 7 6 true", "list 7 true", "depth 8", "plans 7", "plans 6");
        run.call("see 7 true", "see 6 false", "keep 1");
        run.call("live 7 false", "live 0 true", "bar 7 false", "bar 0 true", "asks 7 7 false", "asks 0 7 true", "needs 7 0 false", "needs 0 7 true");
        run.call("clash 7 6 false", "clash 0 1 true", "take 7", "ask 1", "list 7 false", "list 0 true", "depth 0", "cut 0", "plans 0", "plans 0");
        run.call("plans 0", "forget 0", "see 0 true", "see 0 true", "see 0 true").is("back 1", 128);
        int[] rules = {8, 8, 8, 128, 128, 128, 128, 2};
        int[] wish = {0, 0, 128, 1, 64, 129, 129};
        for (int what = 0; what < 8; what++) {
            run.is("rule " + what, rules[what]);
        }
        for (int what = 0; what < 7; what++) {
            run.is("wish 7 " + what, wish[what]);
        }
        run.is("wish 0 2", 1).is("wish 0 3", 0).is("wish 0 4", 0).is("wish 1 4", 0).is("wish 6 4", 128).is("plan 0", 7).is("plan 1", 6);
        run.is("count 2", 2).is("fits 3", 64).is("fits 0", 128).is("live 7 false", 1).is("fits 2", 128);
    }

    /** Every place of a full plan and of a full row of what was seen comes back, behind others that stood there. */
    private static void fullImage(Edges e) {
        Run run = e.at(37, "THE PLAN, what was SEEN").tell(Texts.EACH);
        for (int i = 0; i < 8; i++) {
            run.call("see " + i + " true", "plans " + (7 - i));
        }
        run.is("rule 7", 6).is("count 2", 8).is("fits 0", 1).is("fits 1", 255).is("keep 0", 0).call("forget 0", "cut 0");
        for (int i = 0; i < 8; i++) {
            run.call("see " + (7 - i) + " " + (i % 2 == 0), "plans 0");
        }
        run.is("fits 0", 1).is("fits 1", 170).is("fits 3", 85).is("keep 1", 0).is("back 0", 0).is("count 2", 8).is("fits 1", 255).is("fits 0", 1);
        for (int i = 0; i < 6; i++) {
            run.is("plan " + i, 7 - i);
        }
        run.call("forget 7", "see 0 true").is("fits 1", 127).is("back 1", 0).is("count 2", 8).is("fits 1", 170).is("fits 3", 85).is("plan 5", 0);
        run.call("forget 7", "see 7 true").is("fits 1", 170).is("fits 3", 84).is("back 1", 0).is("fits 3", 85).is("back 0", 0).is("fits 1", 255);
    }

    private static void back(Edges e) {
        e.at(38, "All is as IMAGE k: WISHES that HOLD (bits)").tell(Texts.EACH).is("keep 0", 0).call("ask 7", "ask 0").is("keep 1", 0)
            .is("back 0", 0).is("rule 3", 0).is("back 1", 129).is("rule 3", 129).is("take 0", 1).is("live 7 false", 1).is("back 1", 129)
            .is("rule 3", 129).is("back 0", 0).is("ask 3", 1).is("keep 0", 1).is("back 1", 129).is("back 0", 8);
        e.at(38, "BAD").each(BAD, "back -1", "back 2").call("keep 0", "keep 1").each(BAD, "back -1", "back 2", "back 32", "back " + LEAST)
            .is("back " + MOST, BAD).is("back 1", 0).is("back 0", 0);
        e.at(38, "STATE: there is none").each(STATE, "back 0", "back 1").is("keep 1", 0).is("back 0", STATE).is("back 1", 0).is("keep 0", 0)
            .is("back 0", 0).is("text", 0).each(STATE, "back 0", "back 1").is("keep 0", 0).is("back 1", STATE).is("back 0", 0);
        e.at(38, "STATE: there is none").tell("wish 0 0;").is("keep 1", 0).is("ask 0", 0).fault("foo", 2, 0).is("back 0", STATE).is("back 1", 0);
    }

    private static void sheet(Edges e) {
        e.at(TERMS, "BYTES (lane 0), SHORTS (1), INTS (2)").is("sheet 0 0 1", 1).is("sheet 1 1 1", 1).is("sheet 2 2 1", 1)
            .each(BAD, "sheet 3 3 1", "sheet 3 -1 1").is("lay 3 0 0", -11).is("lay 2 0 0", 1);
        e.at(TERMS, "with 0 to 40 CELLS").is("sheet 0 0 0", 1).is("count 5", 0).is("lay 0 0 0", -12).is("sheet 0 0 40", 1).is("count 5", 40)
            .is("lay 0 39 0", 1).is("lay 0 40 0", -12).is("sheet 0 0 41", BAD).is("count 5", 40).is("sheet 0 0 -1", -14).is("count 5", 40);
        e.at(TERMS, "or nothing (at first)").is("count 5", NONE).is("lay 3 0 0", -11).is("sheet 3 2 0", 1).is("lay 3 0 0", -12)
            .is("count 5", NONE).is("lay 0 0 0", -11);
        Run run = e.at(39, "A SHEET is a new row of CELLS 0: 1").tell("wish 0 0;wish 0 0;");
        for (int lane = 0; lane < 3; lane++) {
            run.is("sheet 1 " + lane + " 40", 1).is("lay 1 0 1", 1).is("lay 1 39 1", 1).is("sheet 1 " + lane + " 1", 1);
            run.is("lay 1 0 1", 1).is("sheet 1 " + lane + " 40", 1).is("read 1 " + lane + " 39 1", 1).is("rule 5", 1).is("take 0", 1);
            run.is("read 1 " + lane + " 0 1", 1).is("rule 5", 1).is("take 0", 1);
        }
        e.at(39, "BAD: also n above 40").each(BAD, "sheet 0 0 41", "sheet 0 2 " + MOST, "sheet -1 0 0", "sheet 4 0 0", "sheet 0 -1 0", "sheet 0 3 0")
            .each(BAD, "sheet " + LEAST + " 0 1", "sheet " + MOST + " 0 1", "sheet 0 " + LEAST + " 1", "sheet 0 " + MOST + " 1")
            .each(BAD, "sheet 4 0 41", "sheet 4 0 -1", "sheet 0 3 -1", "sheet -1 0 -1", "sheet 0 -1 -1").is("count 5", NONE)
            .is("sheet 0 0 40", 1).is("sheet 3 2 40", 1).is("sheet 0 0 0", 1);
        e.at(39, "-10 - 4").is("sheet 0 0 -1", -14).is("sheet 3 2 " + LEAST, -14).is("count 5", NONE).is("lay 3 0 0", -11).is("sheet 0 0 0", 1)
            .is("sheet 0 1 -1", -14).is("count 5", 0).is("torn", 0);
        e.at(TERMS, "4 SIZE (below 0)").is("sheet 0 0 0", 1).is("sheet 0 0 -1", -14).is("count 5", 0).is("torn", 0);
    }

    private static void lay(Edges e) {
        e.at(40, "CELL i of a SHEET becomes v").tell("wish 0 0;wish 0 0;wish 0 0;").is("sheet 0 0 3", 1).is("lay 0 2 1", 1).is("lay 0 0 2", 1)
            .is("read 0 0 0 3", 3).is("rule 5", 7).is("take 1", 1).is("take 2", 1).is("lay 0 0 1", 1).is("read 0 0 0 1", 1).is("rule 5", 3);
        e.at(40, "BAD: k").each(BAD, "lay -1 0 0", "lay 4 0 0", "lay 32 0 0", "lay " + LEAST + " 0 0", "lay " + MOST + " 0 0", "lay 4 -1 0")
            .is("lay 3 0 0", -11).is("sheet 3 0 1", 1).is("lay 3 0 0", 1).is("lay 0 0 0", -11).is("sheet 0 0 1", 1).is("lay 0 0 0", 1);
        e.at(40, "-10 less the FAULT: NULL, INDEX").is("lay 1 0 0", -11).is("lay 1 -1 0", -11).is("lay 1 40 0", -11).is("sheet 1 1 0", 1)
            .each(-12, "lay 1 0 0", "lay 1 -1 0").is("sheet 1 1 1", 1).is("lay 1 0 0", 1).each(-12, "lay 1 1 0", "lay 1 -1 0")
            .each(-12, "lay 1 " + LEAST + " 0", "lay 1 " + MOST + " 0", "lay 1 32 0").is("sheet 1 1 40", 1).is("lay 1 39 0", 1)
            .each(-12, "lay 1 40 0", "lay 1 -1 0").is("torn", 0);
        e.at(TERMS, "1 NULL (nothing)").is("lay 0 0 0", -11).is("read 0 0 0 1", 0).is("torn", 1).is("sheet 0 0 0", 1).is("lay 0 0 0", -12)
            .is("read 0 0 0 1", 0).is("torn", 2);
        e.at(TERMS, "2 INDEX").tell("wish 0 0;").is("sheet 0 0 2", 1).is("lay 0 1 9", 1).is("lay 0 2 9", -12).is("lay 0 -1 9", -12)
            .is("read 0 0 0 1", 1).is("torn", 0).is("read 0 0 2 1", 0).is("torn", 2);
    }

    /** Wish 1 is granted by a cell that is 1 alone; what is -1, 2 or more, is not. */
    private static void lowestBits(Edges e) {
        int[][] ones = {{1, 257, -255, 0x7fffff01, 0x80000001, 65537}, {1, 65537, -65535, 0x7fff0001, 0x80000001}, {1}};
        int[][] others = {{-1, 255, 127, 128, 129, -127, 254, MOST}, {-1, 257, 65535, 32767, 32768, 32769, -255, MOST},
            {-1, 257, 65537, 65535, -65535, 0x80000001, 0x7fff0001, LEAST, MOST}};
        int[][] zeros = {{0, 256, -256, LEAST, 65536}, {0, 65536, -65536, LEAST}, {0}};
        for (int lane = 0; lane < 3; lane++) {
            Run run = e.at(40, "(its lowest bits): 1").tell("wish 0 0;wish 0 0;").is("sheet 2 " + lane + " 2", 1);
            for (int v : ones[lane]) {
                run.is("lay 2 1 " + v, 1).is("read 2 " + lane + " 1 1", 1).is("rule 5", 2).is("take 1", 1);
            }
            for (int v : zeros[lane]) {
                run.is("lay 2 1 " + v, 1).is("read 2 " + lane + " 1 1", 1).is("rule 5", 1).is("take 0", 1);
            }
            for (int v : others[lane]) {
                run.is("lay 2 1 " + v, 1).is("read 2 " + lane + " 1 1", -20);
            }
        }
    }

    private static void read(Edges e) {
        Run run = e.at(41, "n (0 to 20) WISHES are read").tell(Texts.WISHES).is("sheet 0 0 40", 1);
        for (int i = 0; i < 8; i++) {
            run.call("lay 0 " + i + " " + (7 - i));
        }
        run.is("read 0 0 0 0", 0).is("rule 5", 0).is("read 0 0 0 1", 1).is("rule 5", 128).is("read 0 0 1 7", 7).is("rule 5", 255);
        run.each(BAD, "read 0 0 0 -1", "read 0 0 0 21").is("read 0 0 0 20", -20);
        for (int w = 0; w < 8; w++) {
            run.call("take " + w);
        }
        run.is("read 0 0 0 20", -28).is("rule 5", 0).is("sheet 0 0 8", 1).is("lay 0 1 1", 1).is("lay 0 2 2", 1).is("lay 0 3 3", 1);
        run.is("lay 0 4 4", 1).is("lay 0 5 5", 1).is("lay 0 6 6", 1).is("lay 0 7 7", 1).is("read 0 0 0 21", BAD).is("read 0 0 0 20", 8);
        run.is("torn", 2).is("rule 5", 255);
        e.at(41, "BAD: k, lane, n").tell("wish 0 0;").is("sheet 0 0 40", 1).is("sheet 3 0 40", 1).each(BAD, "read -1 0 0 1", "read 4 0 0 1", "read 32 0 0 1")
            .each(BAD, "read 0 -1 0 1", "read 0 3 0 1", "read 0 0 0 -1", "read 0 0 0 21", "read " + LEAST + " 0 0 1", "read " + MOST + " 0 0 1")
            .each(BAD, "read 0 " + LEAST + " 0 1", "read 0 " + MOST + " 0 1", "read 0 0 0 " + LEAST, "read 0 0 0 " + MOST, "read 4 0 0 0")
            .is("torn", 0).is("read 3 0 0 1", 1).is("take 0", 1).is("read 0 0 0 1", 1);
        e.at(41, "as by ask(): how many came").tell(Texts.EACH).is("sheet 0 1 8", 1).call("lay 0 0 7", "lay 0 1 6", "needs 7 5 true")
            .is("read 0 1 0 3", 3).is("rule 5", 225).is("rule 3", 225).is("torn", 0);
    }

    private static void readFrom(Edges e) {
        e.at(41, "one CELL each from CELL f on").tell("wish 0 0;wish 0 0;").is("sheet 0 2 40", 1).is("lay 0 39 1", 1).is("read 0 2 39 1", 1)
            .is("rule 5", 2).is("torn", 0).is("take 1", 1).is("read 0 2 38 2", 2).is("rule 5", 3).is("torn", 0).is("take 0", 1).is("take 1", 1)
            .is("read 0 2 38 3", 2).is("torn", 2).is("rule 5", 3).is("read 0 2 40 0", 0).is("torn", 0).is("read 0 2 40 1", 0).is("torn", 2);
        Run run = e.at(41, "from CELL f on").tell("wish 0 0;").is("sheet 0 2 40", 1);
        for (int f : new int[] {-1, -20, 40, 41, LEAST, LEAST + 1, MOST, MOST - 1, MOST - 19}) {
            run.is("read 0 2 " + f + " 0", 0).is("torn", 0).is("read 0 2 " + f + " 20", 0).is("torn", 2).is("rule 5", 0);
        }
        run.is("read 0 2 0 1", 1).is("torn", 0);
    }

    /** In each way in which ask() does not grant, as the first one and behind others. */
    private static void notGranted(Edges e) {
        String words = "-20 less i: the i-th is not granted by ask() (in whichever way): then none came";
        Run run = e.at(41, words).tell("one dead;one barred;wish 0 0 0;wish 0 0 1;wish 0 0;wish 0 0;wish 0 0;list 2;clash 0 3;needs 4 0;");
        run.is("sheet 0 2 3", 1);
        for (int cell : new int[] {-1, 5, 8, LEAST, MOST, 1, 2, 0, 3}) {
            run.is("lay 0 1 " + cell, 1).is("read 0 2 0 2", -21).is("rule 5", 0).is("rule 3", 0).is("read 0 2 0 3", -21);
            run.is("read 0 2 1 1", cell == 0 || cell == 3 ? 1 : -20).is("rule 5", cell == 0 ? 1 : cell == 3 ? 8 : 0);
            run.call("take 0", "take 3", "live 0 false");
        }
        run = e.at(41, words).tell("one dead;wish 0 0 0;wish 0 0;wish 0 0;needs 1 0;").is("sheet 0 0 3", 1).is("lay 0 0 1", 1);
        run.is("read 0 0 0 2", -21).is("rule 5", 0).is("rule 3", 0).is("ask 2", 0).is("lay 0 1 2", 1).is("read 0 0 0 2", -21).is("rule 5", 4);
        run.is("rule 3", 0).is("read 0 0 1 1", -20).is("take 2", 1).is("read 0 0 0 2", 2).is("rule 5", 7).is("rule 3", 1);
        run = e.at(41, words).tell(Texts.EACH).is("sheet 0 0 9", 1);
        for (int i = 0; i < 9; i++) {
            run.call("lay 0 " + i + " " + Math.min(i, 7));
        }
        run.is("read 0 0 0 9", -28).is("rule 5", 0).is("rule 3", 0).is("read 0 0 0 8", 8).is("rule 5", 255).is("rule 3", 255);
    }

    private static void machine(Edges e) {
        e.at(41, "What the machine refuses: those ahead came").tell("one dead;one dead;wish 0 0 0;wish 0 0 1;").is("sheet 0 0 2", 1).is("lay 0 1 1", 1)
            .is("read 0 0 0 3", 2).is("torn", 2).is("rule 5", 3).is("rule 3", 3).is("take 0", 1).is("read 0 0 2 1", 0).is("torn", 2)
            .is("rule 5", 2).is("read 0 1 0 1", 0).is("torn", 3).is("read 1 0 0 1", 0).is("torn", 1).is("rule 5", 2);
        e.at(41, "the first met").tell("wish 0 0;").is("sheet 0 0 2", 1).is("lay 0 1 9", 1).is("read 0 0 0 3", -21).is("torn", 0)
            .is("read 0 0 1 2", -20).is("read 0 0 2 1", 0).is("torn", 2).is("read 0 0 1 2", -20).is("torn", 2).is("sheet 0 0 1", 1)
            .is("read 0 0 0 2", 1).is("torn", 2).is("read 0 0 0 2", -20).is("read 0 1 0 2", 0).is("torn", 3).is("read 0 0 -1 2", 0)
            .is("torn", 2);
        Run run = e.at(TERMS, "3 CAST (another lane)").tell("wish 0 0;");
        for (int lane = 0; lane < 3; lane++) {
            run.is("sheet 0 " + lane + " 1", 1);
            for (int as = 0; as < 3; as++) {
                run.is("read 0 " + as + " 0 1", as == lane ? 1 : 0).is("torn", as == lane ? 0 : 3).call("take 0");
                run.is("read 0 " + as + " 1 1", 0).is("torn", as == lane ? 2 : 3);
            }
        }
        run.is("sheet 0 0 0", 1).is("read 0 1 0 1", 0).is("torn", 3).is("read 1 1 -1 1", 0).is("torn", 1);
    }

    private static void torn(Edges e) {
        e.at(42, "The FAULT of the latest read() that came to an end; 0").is("torn", 0).is("read 0 0 0 1", 0).is("torn", 1).tell("wish 0 0;")
            .is("torn", 1).is("sheet 0 0 2", 1).is("torn", 1).is("read 0 0 0 21", BAD).is("torn", 1).is("lay 0 1 1", 1).is("read 0 0 1 1", -20)
            .is("torn", 1).is("lay 0 2 1", -12).is("sheet 1 0 -1", -14).is("torn", 1).is("read 0 1 0 1", 0).is("torn", 3).is("keep 0", 0)
            .is("back 0", 0).is("torn", 3).is("read 0 0 0 1", 1).is("torn", 0).is("read 0 0 2 1", 0).is("torn", 2).is("read 0 0 0 0", 0)
            .is("torn", 0);
    }

    private static void count(Edges e) {
        String words = "0 who LIVE, 1 WISHES that HOLD, 2 SEEN, 3 IMAGES, 4 bytes on THE TAPE, 5 CELLS of SHEET 0 (NONE: nothing), 6 on THE LIST, 7 who are BARRED";
        Run run = e.at(43, words).tell(Texts.EACH);
        for (int what = 0; what < 8; what++) {
            run.is("count " + what, what == 5 ? NONE : 0);
        }
        for (int i = 0; i < 8; i++) {
            run.call("ask " + i, "bar " + i + " true", "list " + i + " true", "see " + i + " true");
            run.is("count 0", i + 1).is("count 1", i + 1).is("count 2", i + 1).is("count 6", i + 1).is("count 7", i + 1);
        }
        run.is("keep 1", 0).is("count 3", 1).is("keep 0", 0).is("count 3", 2).is("keep 0", 1).is("count 3", 2).is("feed 32", 1).is("count 4", 1);
        run.is("take 0", 1).is("count 1", 7).is("count 0", 8).is("live 7 false", 1).is("count 0", 7).is("back 0", 255).is("count 0", 8);
        e.at(43, words).feed(" ".repeat(159)).is("count 4", 159).is("feed 32", 160).is("count 4", 160).is("feed 32", Run.FULL).is("count 4", 160)
            .is("text", 0).is("count 4", 0);
        e.at(43, "5 CELLS of SHEET 0 (NONE: nothing)").is("count 5", NONE).is("sheet 1 0 7", 1).is("count 5", NONE).is("sheet 0 0 0", 1)
            .is("count 5", 0).is("sheet 0 2 40", 1).is("count 5", 40).is("sheet 0 0 1", 1).is("count 5", 1).is("sheet 0 0 -1", -14).is("count 5", 1);
        e.at(43, "BAD").each(BAD, "count -1", "count 8", "count " + LEAST, "count " + MOST).is("count 0", 0).is("count 7", 0);
    }
}
