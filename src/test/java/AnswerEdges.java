/** The edges that are told once for all calls. */
final class AnswerEdges {
    private static final int BAD = Run.BAD, STATE = Run.STATE, FULL = Run.FULL, NONE = Run.NONE;
    private static final int[] NO_ONE = {-1, 2, 3, 7, 8, 32, 33, Run.LEAST, Run.MOST};
    private static final String SMALL = "one dead;one dead;wish 1 2 0;wish 3 4;plan 1;";

    private AnswerEdges() {
    }

    static void all(Edges e) {
        calls(e);
        noSuchOne(e);
        noSuchWish(e);
        noSuchImageOrSheet(e);
        states(e);
        full(e);
        none(e);
        firstThatFits(e);
        refused(e);
        fractions(e);
    }

    private static void calls(Edges e) {
        Run run = e.at(Edges.TERMS, "used for at most 512 calls");
        for (int i = 0; i < 3; i++) {
            run.lines(Texts.EACH, 16);
        }
        for (int w = 0; w < 8; w++) {
            run.is("ask " + w, 1).is("take " + w, 1);
        }
        run.is("rule 3", 255).is("rule 5", 0).is("fits 0", 256).is("all", 255).is("row 7 0", 0).is("ask 8", BAD);
        run.is("plans 7", 1).is("plan 0", 7).is("see 7 true", 1);
        run.is("feed 128", BAD);
        if (run.callsLeft() != 0) {
            throw new IllegalStateException("the run is to have 512 calls, but " + run.callsLeft() + " are left");
        }
    }

    private static void noSuchOne(Edges e) {
        Run run = e.at(Edges.TERMS, "there is no such ONE").tell("one dead;one dead;wish 1 2;wish 3 4;plan 1;");
        for (int p : NO_ONE) {
            run.each(BAD, "live " + p + " true", "bar " + p + " true", "asks 0 " + p + " true", "row " + p + " 0");
            run.each(BAD, "cheap " + p, "deep " + p, "fewest " + p + " 0", "see " + p + " true", "odds 5 " + p + " 0");
        }
        for (int p = 0; p < 2; p++) {
            run.each(0, "asks 0 " + p + " false", "asks 0 " + p + " true").each(1, "row " + p + " 0", "fewest " + p + " 0");
            run.is("cheap " + p, 2).is("deep " + p, NONE).is("odds 5 " + p + " 0", 0).is("see " + p + " true", p + 1);
            run.each(0, "bar " + p + " true", "live " + p + " true").is("asks 0 " + p + " false", 1);
        }
    }

    private static void noSuchWish(Edges e) {
        Run run = e.at(Edges.TERMS, "there is no such ONE, WISH").tell(SMALL);
        for (int w : NO_ONE) {
            run.each(BAD, "wish " + w + " 0", "list " + w + " true", "asks " + w + " 0 true", "needs " + w + " 0 true");
            run.each(BAD, "needs 0 " + w + " true", "clash " + w + " 0 true", "clash 0 " + w + " true", "plans " + w);
            run.each(BAD, "looks " + w, "refuses " + w, "ask " + w, "take " + w, "date " + w);
        }
        for (int w = 0; w < 2; w++) {
            run.is("wish " + w + " 0", 1 + 2 * w).is("looks " + w, 1 << w).is("refuses " + w, 0).is("date " + w, 1 + 2 * w);
            run.is("plans " + w, 2 + w).is("asks " + w + " 1 true", 0).is("ask " + w, w == 0 ? 2 : 0).is("take " + w, 1);
            run.is("list " + w + " true", 0).is("needs " + w + " " + (1 - w) + " true", 0);
            run.is("clash " + w + " " + (1 - w) + " true", w);
        }
    }

    private static void noSuchImageOrSheet(Edges e) {
        Run run = e.at(Edges.TERMS, "(a number is not as told, there is no such ONE, WISH, IMAGE, SHEET)").tell(SMALL);
        run.call("keep 0", "keep 1");
        for (int k : new int[] {-1, 2, 3, 32, Run.LEAST, Run.MOST}) {
            run.each(BAD, "keep " + k, "back " + k);
        }
        run.each(1, "keep 0", "keep 1").each(0, "back 0", "back 1");
        for (int k : new int[] {-1, 4, 5, 32, Run.LEAST, Run.MOST}) {
            run.each(BAD, "sheet " + k + " 0 1", "lay " + k + " 0 0", "read " + k + " 0 0 1");
        }
        run = e.at(Edges.TERMS, "SHEETS 0 to 3").tell(SMALL);
        for (int k = 0; k < 4; k++) {
            run.is("sheet " + k + " 2 1", 1).is("lay " + k + " 0 1", 1).is("read " + k + " 2 0 1", 1).is("take 1", 1);
        }
        run.each(BAD, "sheet -1 2 1", "sheet 4 2 1", "lay -1 0 1", "lay 4 0 1", "read -1 2 0 1", "read 4 2 0 1");
        run = e.at(Edges.TERMS, "BAD -1 (a number is not as told").tell(SMALL);
        run.each(BAD, "feed 128", "end 1", "rule 8", "wish 0 7", "plan 1", "depth 9", "cut 2", "row 0 18", "fewest 0 2");
        run.each(BAD, "set 2", "rid 2", "forget 1", "fits 4", "odds 11 0 0", "odds 0 0 2", "wild 0 61 0", "wild 0 1 2");
        run.each(BAD, "sheet 0 3 0", "sheet 0 0 41", "read 0 3 0 0", "read 0 0 0 21", "count 8");
    }

    private static void states(Edges e) {
        Run run = e.at(Edges.TERMS, "STATE -2 (as told)").is("wild 0 1 0", STATE).tell(SMALL);
        run.is("take 0", STATE).is("back 0", STATE).is("deep 0", NONE).is("ask 0", 1);
        run.each(STATE, "ask 0", "deep 0", "fewest 0 0", "fewest 0 1", "back 0", "back 1");
    }

    private static void full(Edges e) {
        Run run = e.at(Edges.TERMS, "FULL -3").tell(SMALL).call("plans 0", "plans 0", "plans 0", "plans 0").is("plans 0", 6);
        run.is("plans 0", FULL).call("see 0 true", "see 0 true", "see 0 true", "see 0 true", "see 0 true", "see 0 true");
        run.is("see 0 true", 7).is("see 0 true", 8).is("see 0 true", FULL).feed(" ".repeat(159)).is("feed 32", 160);
        run.is("feed 32", FULL);
    }

    private static void none(Edges e) {
        Run run = e.at(Edges.TERMS, "NONE -4 (there is none)").tell(SMALL);
        run.each(NONE, "row 1 0", "row 1 10", "row 0 11", "cheap 1", "deep 0", "set 0", "set 1", "count 5");
        run.is("needs 0 1 true", 0).is("needs 1 0 true", 0).each(NONE, "date 0", "date 1").is("list 0 true", 0);
        run.is("ask 0", NONE).is("see 1 true", 1).is("fits 0", 0).each(NONE, "fits 1", "fits 2", "fits 3");
    }

    /** Each of these fits two of the answers at once. */
    private static void firstThatFits(Edges e) {
        Run run = e.at(Edges.TERMS, "the first that fits").each(BAD, "wild 0 0 0", "wild 0 61 0", "wild 0 1 2", "wild 0 1 -1");
        run.is("wild 0 1 0", STATE).each(BAD, "back 2", "set 2", "set -1").each(BAD, "sheet 4 0 -1", "sheet 0 3 -1");
        run.is("sheet 0 0 -1", -14).each(BAD, "lay 4 -1 0", "read 0 3 -1 1", "read 0 0 -1 21", "read 4 0 -1 1");
        run.is("lay 0 -1 0", -11).tell("one alive;one dead;wish 0 0 0;wish 0 0;clash 0 1;");
        run.each(BAD, "fewest 0 2", "fewest 0 -1").each(STATE, "fewest 0 0", "deep 0").each(BAD, "row 1 1", "row 1 18");
        run.is("ask 0", 0).is("list 0 true", 0).each(STATE, "ask 0").each(NONE, "ask 1").is("take 1", STATE);
        run.is("see 0 false", 1).each(BAD, "fits 4", "fits -1").is("fits 1", NONE);
        for (int i = 2; i <= 8; i++) {
            run.is("see 1 true", i);
        }
        run.each(BAD, "see 2 true", "see -1 false").is("see 1 true", FULL);
        for (int i = 1; i <= 6; i++) {
            run.is("plans 1", i);
        }
        run.each(BAD, "plans 2", "plans -1").is("plans 1", FULL).feed("x".repeat(160));
        run.each(BAD, "feed 128", "feed -1").is("feed 0", FULL);
    }

    private static void refused(Edges e) {
        Run run = e.at(Edges.TERMS, "what is refused changes nothing (but THE TAPE, as told)");
        run.tell("one alive;one dead;one barred;wish 1 2 1;wish 3 4 2;wish 5 6;wish 7 8 1;needs 2 3;clash 0 1;depth 1;plan 2;");
        run.call("keep 1", "ask 2", "see 0 true", "see 1 false", "list 3 true", "sheet 0 0 3", "lay 0 0 0", "lay 0 1 1");
        run.call("sheet 3 2 2", "lay 3 1 9", "read 0 0 3 1", "live 2 false", "list 0 true").feed("one dead;foo");
        run.each(BAD, "end 13", "rule 8", "live 3 true", "bar 3 true", "list 4 true", "depth 9", "asks 4 0 true");
        run.each(BAD, "needs 0 0 true", "needs 3 3 false", "clash 0 0 true", "plans 4", "cut 2", "ask 4", "take 4");
        run.each(BAD, "see 3 true", "forget 3", "keep 2", "back 2", "sheet 0 0 41", "lay 4 0 1", "read 0 0 0 21");
        run.is("ask 2", STATE).is("ask 3", STATE).is("ask 0", NONE).is("ask 1", NONE).is("take 0", STATE).is("back 0", STATE);
        run.is("sheet 3 2 -1", -14).is("lay 0 3 1", -12).is("lay 1 0 1", -11).is("read 0 0 0 2", -20).is("list 0 false", 1);
        run.is("read 0 0 0 2", -21).is("read 3 2 0 2", -21).is("torn", 2).is("text", -19).is("fault", 2).is("count 4", 0);
    }

    private static void fractions(Edges e) {
        Run run = e.at(Edges.TERMS, "Fractions are in lowest terms, the denominator above 0 (0 is 0 by 1)");
        run.tell("one dead;one alive;wish 0 0 0;list 0;plan 0;").is("odds 0 0 0", 0).is("odds 0 0 1", 1);
        run.is("odds 5 0 0", 1).is("odds 5 0 1", 2).is("odds 4 0 0", 2).is("odds 4 0 1", 5).is("odds 3 0 0", 3);
        run.is("odds 3 0 1", 10).is("odds 10 0 0", 1).is("odds 10 0 1", 1).is("odds 7 1 0", 1).is("odds 7 1 1", 1);
    }
}
