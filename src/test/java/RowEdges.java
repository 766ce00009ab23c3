/** The edges of rows, sets and dates (promises 24 to 31). */
final class RowEdges {
    private static final int TERMS = Edges.TERMS;
    private static final int BAD = Run.BAD, STATE = Run.STATE, NONE = Run.NONE;
    private static final int LEAST = Run.LEAST, MOST = Run.MOST;
    private static final String BARRED_LAST = "one barred;" + "wish 0 0;".repeat(7) + "wish 0 0 0;" + Texts.CHAIN;
    private static final String ALL_BRING = "one dead;" + "wish 0 1 0;".repeat(8);

    private RowEdges() {
    }

    static void all(Edges e) {
        row(e);
        longestRow(e);
        rowNone(e);
        cheap(e);
        deep(e);
        fewest(e);
        all(e, "ONES who LIVE or can come to LIVE by some ROW (bits)");
        set(e);
        rid(e);
        date(e);
        round(e);
    }

    private static void row(Edges e) {
        e.at(TERMS, "A ROW of WISHES: each does not HOLD when it is ASKED and is not REFUSED").tell("one dead;wish 0 0 0;wish 0 0 0;")
            .is("row 0 10", 0).is("list 0 true", 0).is("row 0 10", 1).is("list 0 false", 1).is("ask 0", 1).is("live 0 false", 1)
            .is("row 0 10", 1).is("ask 1", 1).is("live 0 false", 1).is("row 0 0", NONE).is("take 1", 1).is("row 0 0", 1)
            .is("clash 0 1 true", 0).is("row 0 0", NONE).is("all", 0).is("cheap 0", NONE);
        e.at(24, "The fewest WISHES of a ROW behind which a ONE LIVES (what 0)").tell(Texts.FOUR).is("row 3 0", 4).is("row 2 0", 3)
            .is("row 1 0", 2).is("row 0 0", 1).is("live 0 true", 0).is("row 3 0", 3).is("live 3 true", 0).is("row 3 0", 0)
            .is("row 0 0", 0).is("rule 5", 0);
        Run run = e.at(24, "10 and i (0 to 7)").tell(Texts.FOUR);
        int[] wishes = {3, 2, 1, 0, NONE, NONE, NONE, NONE};
        for (int i = 0; i < 8; i++) {
            run.is("row 3 " + (10 + i), wishes[i]);
        }
        run.each(BAD, "row 3 9", "row 3 18");
        e.at(24, "WISH i of the first such row by numbers").tell(ALL_BRING).is("row 0 10", 0).is("list 0 true", 0).is("row 0 10", 1)
            .call("list 1 true", "list 2 true", "list 3 true", "list 4 true", "list 5 true").is("row 0 10", 6).is("list 6 true", 0)
            .is("row 0 10", 7).is("list 7 true", 0).is("row 0 10", NONE);
        e.at(24, "WISH i of the first such row by numbers").tell("one barred;one dead;wish 0 0 0;wish 0 0;wish 0 0;wish 0 0 0 1;wish 0 0 0 1;")
            .call("needs 1 0 true", "needs 2 0 true").is("row 1 0", 2).is("row 1 10", 1).is("row 1 11", 3).is("clash 1 3 true", 0)
            .is("row 1 10", 1).is("row 1 11", 4).is("clash 1 4 true", 0).is("row 1 10", 2).is("row 1 11", 3).is("row 1 12", NONE);
        e.at(24, "BAD").tell("one dead;wish 0 0 0;").each(BAD, "row -1 0", "row 1 0", "row " + LEAST + " 0", "row " + MOST + " 0", "row 32 0")
            .each(BAD, "row 0 -1", "row 0 1", "row 0 2", "row 0 9", "row 0 18", "row 0 " + LEAST, "row 0 " + MOST, "row 1 10")
            .is("row 0 0", 1).is("row 0 10", 0).is("row 0 17", NONE);
        e.at(24, "BAD").tell(Texts.EACH).each(BAD, "row 8 0", "row -1 0").is("row 7 0", 1).is("row 7 10", 7);
    }

    private static void longestRow(Edges e) {
        Run run = e.at(24, "10 and i (0 to 7)").tell(Texts.SIX).is("row 1 0", 2).is("row 1 10", 4).is("row 1 11", 5);
        for (int w = 0; w < 4; w++) {
            run.call("clash 7 " + w + " true").is("row 1 0", 3 + w);
        }
        for (int i = 0; i < 8; i++) {
            run.is("row 1 " + (10 + i), i < 6 ? i : NONE);
        }
        run.is("cheap 1", 6).is("fewest 1 0", 1).is("fewest 1 1", 1).is("deep 1", 2).is("all", 3).is("row 0 0", 1).is("row 0 10", 4);
        run.is("depth 0", 1).is("row 1 0", 2).is("row 1 10", 4).is("row 1 12", NONE).is("depth 2", 0).is("row 1 0", NONE).is("row 1 10", NONE);
        run.each(BAD, "row 1 9", "row 1 18");
    }

    private static void rowNone(Edges e) {
        e.at(24, "NONE: there is none").tell("one dead;one alive;").each(NONE, "row 0 0", "row 0 10", "row 0 17").is("row 1 0", 0);
        e.at(24, "NONE: there is none").tell("one dead;wish 0 0 0;").is("row 0 0", 1).is("asks 0 0 false", 1).is("row 0 0", NONE)
            .is("asks 0 0 true", 0).is("bar 0 true", 0).is("row 0 0", NONE).is("row 0 10", NONE).is("bar 0 false", 1).is("row 0 10", 0);
        e.at(24, "not so many").tell("one dead;one alive;wish 0 0 0;").is("row 0 10", 0).each(NONE, "row 0 11", "row 0 12", "row 0 17")
            .each(NONE, "row 1 10", "row 1 17").is("ask 0", 1).is("row 0 0", 0).is("row 0 10", NONE);
    }

    private static void cheap(Edges e) {
        e.at(25, "The least sum of PRICES of a ROW behind which a ONE LIVES").tell("one dead;one alive;wish 0 9 0;wish 0 0 0;wish 0 1 0;")
            .is("cheap 0", 0).is("list 1 true", 0).is("cheap 0", 1).is("list 2 true", 0).is("cheap 0", 9).is("cheap 1", 0)
            .is("ask 0", 1).is("cheap 0", 0);
        e.at(25, "The least sum of PRICES of a ROW behind which a ONE LIVES").tell(Texts.FOUR.replace("wish 0 1", "wish 0 9")).is("cheap 3", 36)
            .is("cheap 0", 9).is("live 2 true", 0).is("cheap 3", 9);
        e.at(25, "The least sum of PRICES of a ROW behind which a ONE LIVES")
            .tell("one barred;one dead;wish 0 9;wish 0 1;wish 0 2 0;wish 0 3 0 1;wish 0 1 0;needs 0 3;needs 1 4;")
            .is("row 1 0", 1).is("row 1 10", 0).is("cheap 1", 4).is("clash 1 3 true", 0).is("cheap 1", 9);
        e.at(25, "BAD").is("cheap 0", BAD).tell("one dead;wish 0 2 0;").each(BAD, "cheap -1", "cheap 1", "cheap 32", "cheap " + LEAST)
            .is("cheap " + MOST, BAD).is("cheap 0", 2);
        e.at(25, "BAD").tell(Texts.ONES + "wish 0 3 7;").each(BAD, "cheap 8", "cheap -1").is("cheap 7", 3);
        e.at(25, "NONE: there is none").tell("one dead;wish 0 0 0;list 0;").is("cheap 0", NONE).is("list 0 false", 1).is("cheap 0", 0)
            .is("asks 0 0 false", 1).is("cheap 0", NONE).is("live 0 true", 0).is("cheap 0", 0);
    }

    private static void deep(Edges e) {
        Run run = e.at(26, "The least DEPTH (0 to 8) by which there is no ROW behind which a ONE LIVES").tell(BARRED_LAST).is("deep 0", 7);
        for (int w = 0; w < 7; w++) {
            run.call("list " + w + " true").is("deep 0", 6 - w);
        }
        run.is("list 7 true", 0).is("deep 0", 0).is("rule 2", 0);
        e.at(26, "The least DEPTH (0 to 8) by which there is no ROW behind which a ONE LIVES").tell(BARRED_LAST).call("depth 8").is("deep 0", 7)
            .is("rule 2", 8).is("row 0 0", NONE).is("depth 7", 8).is("row 0 0", NONE).is("depth 6", 7).is("row 0 0", 1);
        e.at(26, "BAD").is("deep 0", BAD).tell("one dead;").each(BAD, "deep -1", "deep 1", "deep 32", "deep " + LEAST, "deep " + MOST)
            .is("deep 0", 0);
        e.at(26, "BAD").tell(Texts.EACH).each(BAD, "deep 8", "deep -1").is("deep 7", NONE);
        e.at(26, "STATE: he LIVES").tell("one alive;one dead;wish 0 0 1;").is("deep 0", STATE).is("deep 1", NONE).is("ask 0", 1)
            .is("deep 1", STATE).is("live 0 false", 1).is("deep 0", 0).is("live 1 false", 1).is("deep 1", 0);
        e.at(26, "NONE: by none").tell("one dead;wish 0 0;wish 0 0;wish 0 0 0;needs 0 1;needs 1 2;").is("deep 0", NONE).is("bar 0 true", 0)
            .is("deep 0", 2).is("list 0 true", 0).is("deep 0", 1).is("list 1 true", 0).is("deep 0", 0).is("bar 0 false", 1)
            .is("deep 0", NONE).is("list 2 true", 0).is("deep 0", 0);
    }

    private static void fewest(Edges e) {
        Run run = e.at(27, "how many (what 0), the least set of so many (1; bits)").tell(ALL_BRING);
        for (int w = 0; w < 8; w++) {
            run.is("fewest 0 0", 8 - w).is("fewest 0 1", 255 & -(1 << w)).call("asks " + w + " 0 false");
        }
        run.is("fewest 0 0", 0).is("fewest 0 1", 0).is("rule 6", 0);
        e.at(27, "The fewest WISHES more on THE LIST").tell(ALL_BRING + "list 0;list 7;").is("fewest 0 0", 6).is("fewest 0 1", 126)
            .call("list 1 true", "list 2 true", "list 3 true", "list 4 true", "list 5 true").is("fewest 0 0", 1).is("fewest 0 1", 64)
            .is("list 6 true", 0).is("fewest 0 0", 0).is("fewest 0 1", 0).is("rule 6", 255);
        e.at(27, "the least set of so many (1; bits)").tell(Texts.FOUR).is("fewest 3 0", 1).is("fewest 3 1", 1).is("fewest 2 1", 2)
            .is("fewest 1 1", 4).is("fewest 0 1", 8).is("depth 1", 0).is("fewest 3 0", 0).is("fewest 3 1", 0);
        e.at(27, "BAD").tell("one dead;wish 0 0 0;").each(BAD, "fewest -1 0", "fewest 1 0", "fewest 32 0", "fewest 0 -1", "fewest 0 2")
            .each(BAD, "fewest " + LEAST + " 0", "fewest " + MOST + " 1", "fewest 0 " + LEAST, "fewest 0 " + MOST)
            .is("fewest 0 0", 1).is("fewest 0 1", 1);
        e.at(27, "BAD").tell(Texts.EACH).each(BAD, "fewest 8 0", "fewest -1 1").is("fewest 7 0", 1).is("fewest 7 1", 128);
        e.at(27, "STATE: he LIVES").tell("one alive;one dead;wish 0 0 1;").each(STATE, "fewest 0 0", "fewest 0 1").is("fewest 1 0", 1)
            .is("ask 0", 1).each(STATE, "fewest 1 0", "fewest 1 1").is("live 1 false", 1).is("fewest 1 0", 0);
    }

    private static void all(Edges e, String words) {
        e.at(28, words).is("all", 0).tell(Texts.ONES).is("all", 0).is("live 7 true", 0).is("all", 128);
        Run run = e.at(28, words).tell(Texts.EACH).is("all", 255);
        for (int w = 0; w < 8; w++) {
            run.call("list " + w + " true").is("all", 255 & -(2 << w));
        }
        run.is("live 3 true", 0).is("all", 8);
        e.at(28, words).tell("one barred;one dead;one dead;wish 0 0 0;wish 0 0 1;wish 0 0 2;clash 1 2;").is("all", 6).is("bar 0 false", 1)
            .is("all", 7).is("ask 1", 1).is("all", 3).is("take 1", 1).is("all", 7).is("rule 3", 2);
    }

    private static void set(Edges e) {
        e.at(29, "how many (what 0), the least set of so many (1; bits)").tell(Texts.WISHES).call("clash 6 7 true").is("set 0", 2)
            .is("set 1", 192).is("clash 0 7 true", 0).is("set 1", 129).is("clash 5 6 true", 0).is("set 1", 96).is("clash 1 2 true", 0)
            .is("set 1", 6).is("clash 0 1 true", 0).is("set 1", 3).is("set 0", 2).is("needs 7 6 true", 0).is("set 0", 1)
            .is("set 1", 128).is("needs 3 7 true", 0).is("set 1", 8);
        e.at(29, "of all together, two FOLLOW that CLASH").tell(Texts.WISHES + Texts.CHAIN + "clash 0 7;").is("set 0", 1).is("set 1", 1)
            .is("needs 3 4 false", 1).is("set 0", 2).is("set 1", 17).is("list 0 true", 0).is("set 1", 17);
        e.at(29, "BAD").each(BAD, "set -1", "set 2", "set " + LEAST, "set " + MOST).tell("wish 0 0;wish 0 0;clash 0 1;")
            .each(BAD, "set -1", "set 2").is("set 0", 2).is("set 1", 3);
        e.at(29, "NONE: no set").each(NONE, "set 0", "set 1").tell("wish 0 0;").each(NONE, "set 0", "set 1").tell("wish 0 0;wish 0 0;needs 0 1;")
            .each(NONE, "set 0", "set 1").is("clash 0 1 true", 0).is("set 0", 1).is("clash 1 0 false", 1).each(NONE, "set 0", "set 1");
    }

    private static void rid(Edges e) {
        Run run = e.at(30, "how many (what 0), the least set of so many (1; bits)").is("rid 0", 0).is("rid 1", 0).tell(Texts.WISHES);
        for (int w = 0; w < 8; w++) {
            run.call("ask " + w);
        }
        run.is("rid 0", 0).is("rid 1", 0);
        for (int w = 0; w < 8; w++) {
            for (int v = 0; v < w; v++) {
                run.call("clash " + v + " " + w + " true");
            }
            run.is("rid 0", w).is("rid 1", (1 << w) - 1);
        }
        run.is("rule 5", 255).is("take 7", 1).is("rid 0", 6).is("rid 1", 63);
        e.at(30, "(each by take()) so that none of those that HOLD CLASH").tell(Texts.WISHES + Texts.CHAIN).call("ask 0", "clash 0 1 true")
            .is("rid 0", 1).is("rid 1", 1).is("clash 5 6 true", 0).is("rid 0", 1).is("rid 1", 32).is("clash 6 7 true", 0).is("rid 1", 64)
            .is("take 6", 7).is("rid 0", 0).is("rid 1", 0);
        e.at(30, "The fewest WISHES that HOLD to be taken back").tell("wish 0 0;wish 0 0;wish 0 0;").call("ask 1", "ask 2", "clash 0 1 true")
            .is("rid 0", 0).is("clash 1 2 true", 0).is("rid 0", 1).is("rid 1", 2).is("needs 0 1 true", 0).is("rid 1", 2);
        e.at(30, "BAD").each(BAD, "rid -1", "rid 2", "rid " + LEAST, "rid " + MOST).tell("wish 0 0;wish 0 0;").call("ask 0", "ask 1")
            .each(BAD, "rid -1", "rid 2").is("clash 0 1 true", 0).is("rid 0", 1).is("rid 1", 1);
    }

    private static void date(Edges e) {
        Run run = e.at(31, "its own and, besides, the most in which one that it NEEDS does").tell("wish 9 0;".repeat(8) + Texts.CHAIN);
        for (int w = 0; w < 8; w++) {
            run.is("date " + w, 9 * (8 - w));
        }
        run.is("needs 3 4 false", 1).is("date 0", 36).is("date 4", 36).is("date 3", 9);
        e.at(31, "its own and, besides, the most in which one that it NEEDS does").tell("wish 0 0;wish 0 0;wish 9 0;wish 1 0;needs 0 1 2 3;")
            .is("date 1", 0).is("date 0", 9).is("needs 0 2 false", 1).is("date 0", 1).is("needs 0 3 false", 1).is("date 0", 0)
            .is("needs 1 2 true", 0).is("date 0", 9).is("ask 0", 0).is("date 0", 9);
        run = e.at(31, "the most in which one that it NEEDS does").tell("wish 9 0;".repeat(8));
        for (int w = 1; w < 8; w++) {
            run.call("needs " + w + " " + (w - 1) + " true").is("date " + w, 9 * (w + 1)).is("date 0", 9);
        }
        e.at(31, "BAD").is("date 0", BAD).tell("wish 3 0;").each(BAD, "date -1", "date 1", "date 32", "date " + LEAST, "date " + MOST)
            .is("date 0", 3);
        e.at(31, "BAD").tell("wish 2 0;".repeat(8)).each(BAD, "date 8", "date -1").is("date 7", 2);
    }

    private static void round(Edges e) {
        String words = "NONE: of those that FOLLOW of it one NEEDS some by which, round and round, it is NEEDED itself";
        e.at(31, words).tell("wish 1 0;wish 2 0;wish 3 0;wish 4 0;needs 0 1;needs 1 2;needs 2 1;needs 2 3;").each(NONE, "date 0", "date 1", "date 2")
            .is("date 3", 4).is("needs 2 1 false", 1).is("date 0", 10).is("date 1", 9).is("date 2", 7);
        Run run = e.at(31, words).tell("wish 9 0;".repeat(8) + Texts.RING);
        for (int w = 0; w < 8; w++) {
            run.is("date " + w, NONE);
        }
        run.is("needs 7 0 false", 1).is("date 0", 72).is("date 7", 9);
        e.at(31, words).tell("wish 1 0;wish 2 0;wish 3 0;wish 4 0;needs 0 1 2;needs 1 3;needs 2 3;").is("date 0", 8).is("needs 3 0 true", 0)
            .each(NONE, "date 0", "date 1", "date 2", "date 3");
    }
}
