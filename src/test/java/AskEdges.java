/** The edges of wishes asked (promises 18 to 23), and of what the clerk looks at and refuses. */
final class AskEdges {
    private static final int TERMS = Edges.TERMS;
    private static final int BAD = Run.BAD, STATE = Run.STATE, NONE = Run.NONE;
    private static final int LEAST = Run.LEAST, MOST = Run.MOST;

    private AskEdges() {
    }

    static void all(Edges e) {
        looks(e);
        refusesWhat(e);
        refuses(e);
        ask(e);
        take(e);
        clashes(e);
        broken(e);
    }

    private static void looks(Edges e) {
        Run run = e.at(TERMS, "DEPTH times (DEPTH 0: it alone)").tell(Texts.WISHES + Texts.CHAIN);
        for (int d = 0; d <= 8; d++) {
            run.call("depth " + d).is("looks 0", (1 << Math.min(d + 1, 8)) - 1).is("looks 7", 128).is("looks 6", d == 0 ? 64 : 192);
        }
        run = e.at(TERMS, "DEPTH times (DEPTH 0: it alone)").tell(Texts.WISHES + Texts.RING);
        for (int d = 0; d <= 8; d++) {
            int behind = (1 << Math.min(d, 7)) - 1;
            run.call("depth " + d).is("looks 7", 128 | behind).is("looks 0", d >= 7 ? 255 : 1 | behind << 1);
        }
        e.at(TERMS, "it, then WISHES that it NEEDS and that do not HOLD").tell("wish 0 0;wish 0 0;wish 0 0;needs 0 1;needs 0 2;depth 1;")
            .is("looks 0", 7).is("ask 1", 0).is("looks 0", 5).is("ask 2", 0).is("looks 0", 1).is("take 1", 1).is("looks 0", 3)
            .is("ask 0", 0).is("looks 0", 1).is("looks 1", 2);
        e.at(TERMS, "then those that these NEED and that do not HOLD").tell("wish 0 0;wish 0 0;wish 0 0;wish 0 0;needs 0 1;needs 1 2;needs 2 3;")
            .call("depth 8").is("looks 0", 15).is("ask 3", 0).is("looks 0", 7).is("ask 2", 0).is("looks 0", 3).is("take 3", 2)
            .is("needs 2 3 false", 1).is("ask 2", 0).is("looks 0", 3).is("needs 2 3 true", 0).is("looks 0", 3).is("depth 0", 8)
            .is("looks 0", 1);
        e.at(18, "WISHES at which THE CLERK LOOKS for a WISH (bits)").tell(Texts.WISHES + Texts.CHAIN).is("looks 0", 1).is("looks 7", 128)
            .is("depth 8", 0).is("looks 0", 255).is("looks 7", 128).is("ask 7", 0).is("looks 7", 128).is("looks 0", 127);
        e.at(18, "BAD").is("looks 0", BAD).tell("wish 0 0;").each(BAD, "looks -1", "looks 1", "looks 32", "looks " + LEAST, "looks " + MOST)
            .is("looks 0", 1);
        e.at(18, "BAD").tell(Texts.WISHES).each(BAD, "looks 8", "looks -1").is("looks 7", 128);
    }

    private static void refusesWhat(Edges e) {
        e.at(TERMS, "He REFUSES it, if it is on THE LIST").tell("wish 0 0;wish 0 0;needs 0 1;depth 8;").is("refuses 0", 0)
            .is("list 1 true", 0).is("refuses 0", 0).is("refuses 1", 1).is("list 0 true", 0).is("refuses 0", 1).is("list 1 false", 1)
            .is("refuses 1", 0).is("ask 0", NONE).is("ask 1", 0);
        e.at(TERMS, "NEEDS a ONE who is BARRED and does not LIVE").tell("one dead;one alive;wish 0 0 0 1;wish 0 0;needs 1 0;")
            .is("refuses 0", 0).is("bar 1 true", 0).is("refuses 0", 0).is("bar 0 true", 0).is("refuses 0", 2).is("refuses 1", 0)
            .is("depth 1", 0).is("refuses 1", 2).is("live 0 true", 0).is("refuses 0", 0).is("refuses 1", 0).is("live 1 false", 1)
            .is("refuses 0", 2).is("bar 1 false", 1).is("refuses 0", 0).is("ask 1", 1);
        e.at(TERMS, "if two of them CLASH, or one with a WISH that HOLDS").tell("wish 0 0;wish 0 0;wish 0 0;wish 0 0;needs 0 1;needs 0 2;")
            .is("clash 1 2 true", 0).is("refuses 0", 0).is("depth 1", 0).is("refuses 0", 3).is("refuses 1", 0).is("clash 1 2 false", 1)
            .is("clash 0 2 true", 0).is("refuses 0", 3).is("depth 0", 1).is("refuses 0", 0).is("clash 0 2 false", 1)
            .is("clash 1 3 true", 0).is("depth 1", 0).is("refuses 0", 0).is("ask 3", 0).is("refuses 0", 3).is("refuses 1", 3)
            .is("refuses 2", 0).is("depth 0", 1).is("refuses 0", 0).is("take 3", 1).is("refuses 1", 0);
        e.at(TERMS, "two of them CLASH").tell(Texts.WISHES + Texts.CHAIN).call("clash 0 7 true", "depth 6").is("refuses 0", 0)
            .is("depth 7", 6).is("refuses 0", 3).is("ask 0", NONE).is("depth 6", 7).is("ask 0", 0).is("clashes", 1);
        String barredLast = "one barred;" + "wish 0 0;".repeat(7) + "wish 0 0 0;" + Texts.CHAIN;
        e.at(TERMS, "if one of those at which he LOOKS NEEDS a ONE").tell(barredLast).call("depth 7").is("refuses 0", 2).is("ask 0", NONE)
            .is("depth 6", 7).is("refuses 0", 0).is("refuses 1", 2).is("ask 0", 1).is("rule 5", 255).is("rule 3", 1);
    }

    private static void refuses(Edges e) {
        e.at(19, "0 not, 1 it is on THE LIST, 2 a ONE who is BARRED, 3 a CLASH (the first of these that is so)")
            .tell("one barred;wish 0 0 0;wish 0 0;clash 0 1;list 0;").is("ask 1", 0).is("refuses 0", 1).is("list 0 false", 1)
            .is("refuses 0", 2).is("bar 0 false", 1).is("refuses 0", 3).is("list 0 true", 0).is("refuses 0", 1).is("list 0 false", 1)
            .is("clash 0 1 false", 1).is("refuses 0", 0).is("bar 0 true", 0).is("refuses 0", 2).is("live 0 true", 0).is("refuses 0", 0);
        e.at(19, "BAD").is("refuses 0", BAD).tell("wish 0 0;").each(BAD, "refuses -1", "refuses 1", "refuses 32", "refuses " + LEAST)
            .is("refuses " + MOST, BAD).is("refuses 0", 0);
        e.at(19, "BAD").tell(Texts.WISHES).each(BAD, "refuses 8", "refuses -1").is("refuses 7", 0);
    }

    private static void ask(Edges e) {
        e.at(20, "how many come to LIVE by it").tell(Texts.EACH).call("needs 0 1 true", "needs 1 2 true", "needs 2 3 true", "needs 3 4 true")
            .call("needs 4 5 true", "needs 5 6 true", "needs 6 7 true", "keep 0").is("ask 0", 8).is("rule 3", 255).is("rule 5", 255)
            .is("back 0", 0).is("live 0 true", 0).is("ask 0", 7).is("back 0", 0).is("ask 7", 1).is("ask 0", 7).is("take 0", 1)
            .is("ask 0", 0).is("rule 5", 255);
        e.at(20, "how many come to LIVE by it").tell("wish 0 0;").is("ask 0", 0).is("rule 5", 1);
        e.at(20, "BAD").is("ask 0", BAD).tell("one dead;wish 0 0 0;").each(BAD, "ask -1", "ask 1", "ask 32", "ask " + LEAST, "ask " + MOST)
            .is("rule 5", 0).is("ask 0", 1);
        e.at(20, "BAD").tell(Texts.WISHES).each(BAD, "ask 8", "ask -1").is("ask 7", 0);
        e.at(20, "STATE: it HOLDS").tell("one dead;wish 0 0 0;wish 0 0;needs 1 0;").is("ask 1", 1).each(STATE, "ask 1", "ask 0")
            .is("live 0 false", 1).is("ask 0", STATE).is("rule 3", 0).is("take 1", 1).is("ask 0", STATE).is("ask 1", 1)
            .is("take 0", 2).is("ask 0", 0).is("ask 0", STATE);
        e.at(20, "NONE: it is REFUSED").tell("one barred;wish 0 0 0;wish 0 0;wish 0 0;clash 1 2;list 2;").each(NONE, "ask 0", "ask 2")
            .is("ask 1", 0).is("list 2 false", 1).is("ask 2", NONE).is("rule 5", 2).is("rule 3", 0).is("take 1", 1).is("ask 2", 0)
            .is("ask 1", NONE).is("live 0 true", 0).is("ask 0", 0).is("rule 5", 5);
        e.at(TERMS, "all that FOLLOW HOLD from then on, all ONES whom these NEED LIVE")
            .tell("one dead;one barred;one dead;wish 0 0 0;wish 0 0 1;wish 0 0 2;needs 0 1;needs 1 2;list 1;clash 1 2;")
            .is("ask 0", 3).is("rule 5", 7).is("rule 3", 7).is("clashes", 1).is("broken", 0);
    }

    private static void take(Edges e) {
        e.at(21, "it and those that HOLD and of which it FOLLOWS hold no more").tell(Texts.WISHES + Texts.CHAIN).is("ask 0", 0)
            .is("take 0", 1).is("rule 5", 254).is("ask 0", 0).is("take 7", 8).is("rule 5", 0).is("ask 4", 0).is("take 6", 3)
            .is("rule 5", 128).is("take 7", 1).is("rule 5", 0);
        e.at(21, "it and those that HOLD and of which it FOLLOWS hold no more").tell(Texts.WISHES + Texts.RING).is("ask 3", 0)
            .is("rule 5", 255).is("take 3", 8).is("rule 5", 0);
        e.at(21, "(who LIVES, LIVES on)").tell(Texts.EACH).is("ask 7", 1).is("ask 0", 1).is("take 7", 1).is("rule 3", 129).is("rule 5", 1)
            .is("take 0", 1).is("rule 3", 129).is("ask 7", 0);
        e.at(21, "how many these are").tell("wish 0 0;wish 0 0;wish 0 0;").is("ask 0", 0).is("ask 1", 0).is("needs 0 2 true", 0)
            .is("needs 1 2 true", 0).is("take 0", 1).is("ask 1", STATE).is("ask 2", 0).is("ask 0", 0).is("take 2", 3).is("rule 5", 0);
        e.at(21, "BAD").is("take 0", BAD).tell("wish 0 0;").is("ask 0", 0).each(BAD, "take -1", "take 1", "take 32", "take " + LEAST)
            .is("take " + MOST, BAD).is("take 0", 1);
        e.at(21, "BAD").tell(Texts.WISHES).is("ask 7", 0).each(BAD, "take 8", "take -1").is("take 7", 1);
        e.at(21, "STATE: it does not HOLD").tell("wish 0 0;wish 0 0;needs 0 1;").each(STATE, "take 0", "take 1").is("ask 1", 0)
            .is("take 0", STATE).is("take 1", 1).is("take 1", STATE).is("ask 0", 0).is("take 1", 2).each(STATE, "take 0", "take 1");
    }

    private static void clashes(Edges e) {
        Run run = e.at(22, "Pairs of WISHES that HOLD and CLASH: how many").is("clashes", 0).tell(Texts.WISHES);
        int pairs = 0;
        for (int w = 0; w < 8; w++) {
            run.call("ask " + w);
        }
        run.is("clashes", 0);
        for (int w = 0; w < 8; w++) {
            for (int v = w + 1; v < 8; v++) {
                pairs++;
                run.call("clash " + w + " " + v + " true").is("clashes", pairs);
            }
        }
        run.is("clashes", 28).is("take 7", 1).is("clashes", 21).is("take 0", 1).is("clashes", 15).is("ask 0", NONE);
        for (int w = 1; w < 6; w++) {
            run.call("take " + w);
        }
        run.is("clashes", 0).is("rule 5", 64);
    }

    private static void broken(Edges e) {
        e.at(23, "of which some WISH that FOLLOWS does not HOLD").tell(Texts.WISHES + Texts.CHAIN).is("broken", 0).is("ask 0", 0)
            .is("broken", 0).is("needs 6 7 false", 1).is("take 7", 1).is("broken", 0).is("needs 6 7 true", 0).is("broken", 127)
            .is("take 6", 7).is("broken", 0);
        e.at(23, "or NEEDS a ONE who does not LIVE (bits)").tell(Texts.EACH).call("ask 0", "ask 7").is("broken", 0).is("live 1 false", 0)
            .is("broken", 0).is("live 7 false", 1).is("broken", 128).is("needs 0 7 true", 0).is("broken", 129).is("live 0 false", 1)
            .is("live 7 true", 0).is("broken", 1).is("take 0", 1).is("broken", 0);
        Run run = e.at(23, "WISHES that HOLD of which some WISH").tell(Texts.EACH);
        for (int w = 0; w < 8; w++) {
            run.call("ask " + w).is("broken", 0);
        }
        for (int p = 0; p < 8; p++) {
            run.call("live " + p + " false").is("broken", (1 << p + 1) - 1);
        }
        run.is("take 0", 1).is("broken", 254);
    }
}
