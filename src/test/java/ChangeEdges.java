/** The edges of what is changed (promises 9 to 17). */
final class ChangeEdges {
    private static final int BAD = Run.BAD, FULL = Run.FULL;
    private static final int LEAST = Run.LEAST, MOST = Run.MOST;

    private ChangeEdges() {
    }

    static void all(Edges e) {
        people(e, 9, "live", 3, "A ONE LIVES, or not: whether he did");
        people(e, 10, "bar", 4, "A ONE is BARRED, or not: whether he was");
        list(e);
        depth(e);
        asks(e);
        needs(e);
        clash(e);
        plans(e);
        cut(e);
    }

    private static void people(Edges e, int promise, String call, int what, String words) {
        e.at(promise, words).tell(Texts.ONES).is(call + " 0 true", 0).is(call + " 7 true", 0).is("rule " + what, 129)
            .is("rule " + (7 - what), 0).is(call + " 0 true", 1).is("rule " + what, 129).is(call + " 7 false", 1)
            .is(call + " 7 false", 0).is("rule " + what, 1).is(call + " 1 false", 0).is("rule " + what, 1);
        e.at(promise, "BAD").is(call + " 0 true", BAD).tell("one dead;").each(BAD, call + " -1 true", call + " 1 true", call + " 1 false")
            .each(BAD, call + " 32 true", call + " " + LEAST + " true", call + " " + MOST + " false").is(call + " 0 true", 0);
        e.at(promise, "BAD").tell(Texts.ONES).each(BAD, call + " 8 true", call + " -1 true").is(call + " 7 true", 0).is("rule " + what, 128);
    }

    private static void list(Edges e) {
        e.at(11, "A WISH is on THE LIST, or not: whether it was").tell(Texts.WISHES).is("list 0 true", 0).is("list 7 true", 0)
            .is("rule 6", 129).is("list 7 true", 1).is("rule 6", 129).is("list 0 false", 1).is("list 0 false", 0).is("rule 6", 128);
        e.at(11, "BAD").is("list 0 true", BAD).tell("wish 0 0;").each(BAD, "list -1 true", "list 1 true", "list 1 false")
            .each(BAD, "list 32 true", "list " + LEAST + " true", "list " + MOST + " false").is("list 0 true", 0);
        e.at(11, "BAD").tell(Texts.WISHES).each(BAD, "list 8 true", "list -1 false").is("list 7 true", 0).is("rule 6", 128);
    }

    private static void depth(Edges e) {
        e.at(12, "DEPTH becomes d: what it was").is("depth 8", 0).is("rule 2", 8).is("depth 0", 8).is("rule 2", 0).is("depth 1", 0)
            .is("depth 1", 1).is("rule 2", 1);
        e.at(12, "BAD").is("depth 8", 0).each(BAD, "depth 9", "depth -1", "depth " + LEAST, "depth " + MOST).is("depth 0", 8)
            .each(BAD, "depth -1", "depth 9").is("rule 2", 0);
    }

    private static void asks(Edges e) {
        e.at(13, "A WISH NEEDS a ONE, or not: whether it did").tell(Texts.ONES + Texts.WISHES).is("asks 7 7 true", 0)
            .is("asks 7 0 true", 0).is("asks 0 7 true", 0).is("wish 7 2", 129).is("wish 0 2", 128).is("wish 7 6", 129)
            .is("asks 7 7 true", 1).is("wish 7 2", 129).is("asks 7 7 false", 1).is("asks 7 7 false", 0).is("wish 7 2", 1)
            .is("wish 7 6", 1).is("ask 7", 1).is("ask 0", 1).is("rule 3", 129);
        e.at(13, "BAD").is("asks 0 0 true", BAD).tell("one dead;wish 0 0;").each(BAD, "asks -1 0 true", "asks 1 0 true", "asks 0 -1 true")
            .each(BAD, "asks 0 1 true", "asks 0 1 false", "asks 0 32 true", "asks 0 " + LEAST + " true", "asks 0 " + MOST + " true")
            .each(BAD, "asks " + LEAST + " 0 true", "asks " + MOST + " 0 true", "asks 1 1 true").is("asks 0 0 true", 0);
        e.at(13, "BAD").tell(Texts.ONES + Texts.WISHES).each(BAD, "asks 8 7 true", "asks 7 8 true").is("asks 7 7 true", 0);
    }

    private static void needs(Edges e) {
        e.at(14, "A WISH NEEDS another one, or not: whether it did").tell(Texts.WISHES).is("needs 0 7 true", 0).is("wish 0 3", 128)
            .is("wish 7 3", 0).is("needs 0 7 true", 1).is("needs 7 0 true", 0).is("wish 7 3", 1).is("wish 7 5", 129)
            .is("needs 0 7 false", 1).is("needs 0 7 false", 0).is("wish 0 3", 0).is("wish 0 5", 1).is("wish 7 5", 129);
        e.at(14, "BAD (also itself)").is("needs 0 1 true", BAD).tell("wish 0 0;wish 0 0;").each(BAD, "needs 0 0 true", "needs 1 1 true")
            .each(BAD, "needs 1 1 false", "needs -1 0 true", "needs 0 -1 true", "needs 2 0 true", "needs 0 2 true", "needs 2 2 true")
            .each(BAD, "needs 0 32 true", "needs 0 33 true", "needs 0 " + LEAST + " true", "needs " + MOST + " 0 true")
            .is("needs 0 1 true", 0).is("needs 1 0 true", 0);
        e.at(14, "BAD (also itself)").tell(Texts.WISHES).each(BAD, "needs 8 7 true", "needs 7 8 true", "needs 7 7 true").is("needs 7 6 true", 0);
    }

    private static void clash(Edges e) {
        e.at(15, "Two WISHES CLASH, or not: whether they did").tell(Texts.WISHES).is("clash 0 7 true", 0).is("wish 0 4", 128)
            .is("wish 7 4", 1).is("clash 7 0 true", 1).is("clash 6 7 true", 0).is("wish 7 4", 65).is("clash 7 0 false", 1)
            .is("wish 0 4", 0).is("wish 7 4", 64).is("clash 0 7 false", 0);
        e.at(15, "BAD (also alike)").is("clash 0 1 true", BAD).tell("wish 0 0;wish 0 0;").each(BAD, "clash 0 0 true", "clash 1 1 true")
            .each(BAD, "clash 1 1 false", "clash -1 0 true", "clash 0 -1 true", "clash 2 0 true", "clash 0 2 true", "clash 2 2 true")
            .each(BAD, "clash 0 32 true", "clash 0 33 true", "clash 0 " + LEAST + " true", "clash " + MOST + " 0 true")
            .is("clash 0 1 true", 0).is("clash 1 0 true", 1);
        e.at(15, "BAD (also alike)").tell(Texts.WISHES).each(BAD, "clash 8 7 true", "clash 7 8 true", "clash 7 7 true").is("clash 7 6 true", 0);
    }

    private static void plans(Edges e) {
        e.at(16, "THE PLAN has a WISH more: how many it has").tell(Texts.WISHES + "plan 5;").is("plans 7", 2).is("plans 7", 3)
            .is("plans 0", 4).is("plan 0", 5).is("plan 1", 7).is("plan 2", 7).is("plan 3", 0).is("plan 4", BAD);
        e.at(16, "BAD").is("plans 0", BAD).tell("wish 0 0;").each(BAD, "plans 1", "plans -1", "plans " + LEAST, "plans " + MOST)
            .is("plans 0", 1);
        e.at(16, "BAD").tell(Texts.WISHES).each(BAD, "plans 8", "plans -1").is("plans 7", 1);
        e.at(16, "FULL").tell(Texts.WISHES).is("plans 1", 1).is("plans 2", 2).is("plans 3", 3).is("plans 4", 4).is("plans 5", 5)
            .is("plans 6", 6).each(FULL, "plans 7", "plans 0").is("rule 7", 6).is("plan 5", 6).is("cut 5", 6).is("plans 7", 6)
            .is("plan 5", 7).is("plans 7", FULL);
        e.at(16, "FULL").tell("wish 0 0;" + "plan 0;".repeat(6)).is("plans 0", FULL).is("cut 0", 6).is("plans 0", 1);
    }

    private static void cut(Edges e) {
        e.at(17, "THE PLAN has its first n WISHES alone: how many it had").is("cut 0", 0)
            .tell(Texts.WISHES + "plan 7;plan 6;plan 5;plan 4;plan 3;plan 2;").is("cut 6", 6).is("plan 5", 2).is("cut 5", 6)
            .is("plan 5", BAD).is("plan 4", 3).is("cut 1", 5).is("plan 0", 7).is("plan 1", BAD).is("cut 0", 1).is("plan 0", BAD)
            .is("rule 7", 0).is("plans 1", 1).is("plan 0", 1);
        e.at(17, "BAD").each(BAD, "cut 1", "cut -1").tell("wish 0 0;plan 0;plan 0;").each(BAD, "cut 3", "cut -1", "cut 6", "cut 7")
            .each(BAD, "cut " + LEAST, "cut " + MOST).is("cut 1", 2).each(BAD, "cut 2").is("cut 0", 1).each(BAD, "cut 1");
        e.at(17, "BAD").tell("wish 0 0;" + "plan 0;".repeat(6)).each(BAD, "cut 7", "cut -1").is("cut 6", 6);
    }
}
