/** The edges of what is seen, of odds, and of wishes by a seed (promises 32 to 36). */
final class ChanceEdges {
    private static final int TERMS = Edges.TERMS;
    private static final int BAD = Run.BAD, STATE = Run.STATE, FULL = Run.FULL, NONE = Run.NONE;
    private static final int LEAST = Run.LEAST, MOST = Run.MOST;

    private ChanceEdges() {
    }

    static void all(Edges e) {
        see(e);
        forget(e);
        fits(e);
        fitsNone(e);
        odds(e);
        oddsOfPlan(e);
        wild(e);
        wildSeeds(e);
    }

    private static void see(Edges e) {
        Run run = e.at(TERMS, "SEEN (8): whether a ONE LIVES").tell(Texts.EACH);
        for (int p = 0; p < 8; p++) {
            run.is("see " + p + " " + (p % 2 == 0), p + 1).is("fits 1", 0x55 & (2 << p) - 1).is("fits 3", 0xaa & (2 << p) - 1);
        }
        run.is("fits 0", 1).is("see 0 true", FULL).is("count 2", 8);
        e.at(32, "SEEN: one more: how many are").tell("one dead;").is("count 2", 0).is("see 0 true", 1).is("see 0 true", 2).is("see 0 false", 3)
            .is("count 2", 3).is("forget 1", 3).is("see 0 true", 2);
        e.at(32, "BAD").is("see 0 true", BAD).tell("one dead;").each(BAD, "see -1 true", "see 1 true", "see 1 false", "see 32 true")
            .each(BAD, "see " + LEAST + " true", "see " + MOST + " false").is("count 2", 0).is("see 0 true", 1);
        e.at(32, "BAD").tell(Texts.ONES).each(BAD, "see 8 true", "see -1 false").is("see 7 true", 1);
        run = e.at(32, "FULL").tell("one dead;one dead;wish 0 0 0;wish 0 0 1;");
        for (int n = 1; n <= 8; n++) {
            run.is("see 0 true", n);
        }
        run.each(FULL, "see 1 true", "see 0 false").is("fits 0", 2).is("count 2", 8).is("forget 7", 8).is("see 1 true", 8)
            .is("fits 0", 1).is("see 0 true", FULL).is("forget 0", 8).is("see 0 true", 1);
    }

    private static void forget(Edges e) {
        e.at(33, "SEEN are the first n alone: how many there were").is("forget 0", 0).tell(Texts.EACH).call("see 7 true", "see 0 true")
            .call("see 0 false").is("fits 0", 0).is("forget 3", 3).is("fits 0", 0).is("forget 2", 3).is("fits 1", 129).is("forget 1", 2)
            .is("fits 1", 128).is("count 2", 1).is("forget 0", 1).is("fits 1", 0).is("fits 0", 256).is("forget 0", 0);
        e.at(33, "BAD").each(BAD, "forget 1", "forget -1").tell("one dead;").call("see 0 true", "see 0 true").each(BAD, "forget 3", "forget 8")
            .each(BAD, "forget -1", "forget " + LEAST, "forget " + MOST).is("forget 2", 2).is("forget 1", 2).is("forget 2", BAD)
            .is("forget 0", 1).is("forget 1", BAD);
        e.at(33, "BAD").tell("one dead;").call("see 0 true", "see 0 true", "see 0 true", "see 0 true", "see 0 true", "see 0 true")
            .call("see 0 true", "see 0 true").each(BAD, "forget 9", "forget -1").is("forget 8", 8).is("forget 7", 8).is("forget 8", BAD);
    }

    private static void fits(Edges e) {
        e.at(34, "how many (what 0), the least by bits (1), WISHES in all of them (2), in none (3; bits)").tell(Texts.EACH).is("fits 0", 256)
            .each(0, "fits 1", "fits 2", "fits 3").is("see 7 true", 1).is("fits 0", 128).is("fits 1", 128).is("fits 2", 128).is("fits 3", 0)
            .is("forget 0", 1).is("see 7 false", 1).is("fits 0", 128).is("fits 1", 0).is("fits 2", 0).is("fits 3", 128)
            .is("see 0 true", 2).is("fits 0", 64).is("fits 1", 1).is("fits 2", 1).is("fits 3", 128);
        Run all = e.at(34, "WISHES in all of them (2)").tell(Texts.EACH);
        Run none = e.at(34, "in none (3; bits)").tell(Texts.EACH);
        for (int p = 0; p < 8; p++) {
            int bits = (2 << p) - 1;
            all.call("see " + p + " true").is("fits 0", 128 >> p).is("fits 1", bits).is("fits 2", bits).is("fits 3", 0);
            none.call("see " + p + " false").is("fits 0", 128 >> p).is("fits 1", 0).is("fits 2", 0).is("fits 3", bits);
        }
        e.at(TERMS, "did just all that FOLLOW of them HOLD (nothing else, THE CLERK aside)").tell("one dead;one barred;wish 0 0;wish 0 0 0 1;wish 0 0;")
            .call("needs 0 1 true", "list 0 true", "clash 0 1 true", "depth 8", "see 1 true").is("fits 0", 6).is("fits 1", 1)
            .is("needs 0 1 false", 1).is("fits 0", 4).is("fits 2", 2);
        e.at(TERMS, "ONES who LIVE now and those whom these NEED would be as SEEN").tell("one dead;one alive;wish 0 0 0;").is("ask 0", 1)
            .is("see 0 true", 1).is("fits 0", 2).is("live 0 false", 1).is("fits 0", 1).is("fits 2", 1).is("see 1 true", 2).is("fits 0", 1)
            .is("live 1 false", 1).is("fits 0", 0);
        e.at(34, "BAD").each(BAD, "fits -1", "fits 4", "fits " + LEAST, "fits " + MOST).is("fits 0", 1).is("fits 3", 0);
    }

    private static void fitsNone(Edges e) {
        e.at(34, "NONE (1 to 3): none").tell("one dead;one alive;wish 0 0 0;").is("see 0 true", 1).is("see 0 false", 2).is("fits 0", 0)
            .each(NONE, "fits 1", "fits 2", "fits 3").is("forget 1", 2).is("fits 0", 1).each(1, "fits 1", "fits 2").is("fits 3", 0)
            .is("forget 0", 1).is("see 1 false", 1).is("fits 0", 0).each(NONE, "fits 1", "fits 2", "fits 3");
        e.at(34, "NONE (1 to 3): none").tell("one dead;").is("see 0 true", 1).is("fits 0", 0).each(NONE, "fits 1", "fits 2", "fits 3")
            .is("forget 0", 1).is("see 0 false", 1).is("fits 0", 1).each(0, "fits 1", "fits 2", "fits 3");
    }

    private static void odds(Edges e) {
        Run run = e.at(35, "THE CLERK falls asleep by v out of ten (0 to 10)").tell("one barred;wish 0 0 0;plan 0;");
        int[] above = {0, 1, 1, 3, 2, 1, 3, 7, 4, 9, 1};
        int[] below = {1, 10, 5, 10, 5, 2, 5, 10, 5, 10, 1};
        for (int v = 0; v <= 10; v++) {
            run.is("odds " + v + " 0 0", above[v]).is("odds " + v + " 0 1", below[v]);
        }
        run.each(BAD, "odds -1 0 0", "odds 11 0 0", "odds -1 0 1", "odds 11 0 1");
        e.at(35, "for it alone, and REFUSES nothing").tell("one dead;one dead;wish 0 0 0;wish 0 0 1;clash 0 1;list 0;list 1;plan 0;plan 1;")
            .is("odds 3 0 0", 3).is("odds 3 1 0", 3).is("odds 3 1 1", 10).is("odds 10 1 0", 1).is("odds 0 0 0", 0).is("list 1 false", 1)
            .is("odds 0 1 0", 1).is("odds 3 1 0", 79).is("odds 3 1 1", 100).is("odds 10 1 0", 1);
        e.at(35, "that a ONE LIVES in the end: 0, 1").tell("one dead;one alive;wish 0 0;plan 0;").is("odds 5 0 0", 0).is("odds 5 0 1", 1)
            .is("odds 5 1 0", 1).is("odds 5 1 1", 1).is("cut 0", 1).is("odds 5 0 0", 0).is("odds 5 0 1", 1).is("odds 5 1 0", 1)
            .each(BAD, "odds 5 0 -1", "odds 5 0 2");
        e.at(35, "BAD").is("odds 0 0 0", BAD).tell("one dead;").each(BAD, "odds -1 0 0", "odds 11 0 0", "odds 5 -1 0", "odds 5 1 0")
            .each(BAD, "odds 5 0 -1", "odds 5 0 2", "odds " + LEAST + " 0 0", "odds " + MOST + " 0 0", "odds 5 " + LEAST + " 0")
            .each(BAD, "odds 5 " + MOST + " 0", "odds 5 0 " + LEAST, "odds 5 0 " + MOST, "odds 5 32 0").is("odds 10 0 0", 0)
            .is("odds 0 0 1", 1);
        e.at(35, "BAD").tell(Texts.ONES).each(BAD, "odds 5 8 0", "odds 5 -1 0").is("odds 5 7 0", 0).is("odds 5 7 1", 1);
    }

    private static void oddsOfPlan(Edges e) {
        e.at(35, "THE PLAN is ASKED, WISH behind WISH").tell("one dead;wish 0 0 0;list 0;" + "plan 0;".repeat(6)).is("odds 1 0 0", 468559)
            .is("odds 1 0 1", 1000000).is("odds 9 0 0", 999999).is("odds 9 0 1", 1000000).is("odds 5 0 0", 63).is("odds 5 0 1", 64)
            .is("odds 0 0 0", 0).is("odds 0 0 1", 1).is("odds 10 0 0", 1).is("odds 10 0 1", 1).is("cut 5", 6).is("odds 5 0 0", 31)
            .is("odds 5 0 1", 32).is("cut 1", 5).is("odds 5 0 0", 1).is("cut 0", 1).is("odds 5 0 0", 0).is("odds 5 0 1", 1);
        e.at(35, "(those that HOLD then are left out)").tell("one dead;one dead;wish 0 0 0;wish 0 0 1;needs 1 0;plan 0;list 0;").is("odds 5 0 0", 1)
            .is("odds 5 0 1", 2).is("list 0 false", 1).is("odds 0 0 0", 1).is("ask 0", 1).is("live 0 false", 1).is("odds 5 0 0", 0)
            .is("odds 5 0 1", 1).is("plans 1", 2).is("odds 0 0 0", 1).is("rule 3", 0).is("rule 5", 1);
        e.at(35, "THE PLAN is ASKED, WISH behind WISH").tell("one dead;wish 0 0;wish 0 0;wish 0 0 0;clash 0 2;plan 0;plan 1;plan 2;")
            .is("odds 0 0 0", 0).is("odds 0 0 1", 1).is("odds 7 0 0", 7).is("odds 7 0 1", 10).is("cut 0", 3).call("plans 1", "plans 2")
            .is("odds 0 0 0", 1).is("plans 0", 3).is("odds 0 0 0", 1).is("ask 0", 0).is("odds 0 0 0", 0);
    }

    private static void wild(Edges e) {
        Run run = e.at(36, "n times (1 to 60)").tell("one barred;wish 0 0 0;").is("wild 9 1 1", 1).is("wild 9 2 1", 2).is("wild 9 59 1", 59)
            .is("wild 9 60 1", 60).each(BAD, "wild 9 0 1", "wild 9 61 1", "wild 9 -1 1").is("wild 9 60 0", 0);
        run.is("live 0 true", 0).is("wild 9 60 1", 0).is("wild 9 60 0", 1);
        e.at(36, "who LIVES then (what 0; bits), how many were REFUSED (1)").tell(Texts.EACH).is("wild 1 1 0", 64).is("wild 1 2 0", 64)
            .is("wild 1 3 0", 66).is("wild 1 4 0", 74).is("wild 1 6 0", 74).is("wild 2 6 0", 182).is("wild 2 6 1", 0).is("live 0 true", 0)
            .is("wild 2 1 0", 17).is("bar 4 true", 0).is("wild 2 1 0", 1).is("wild 2 1 1", 1).is("wild 2 6 0", 167).is("wild 2 6 1", 1)
            .is("rule 3", 1).is("rule 5", 0);
        e.at(36, "it is ASKED, or, if it HOLDS, taken back").tell("one dead;wish 0 0 0;").is("ask 0", 1).is("list 0 true", 0)
            .is("wild 5 1 1", 0).is("wild 5 2 1", 1).is("wild 5 60 1", 59).is("live 0 false", 1).is("wild 5 60 0", 0).is("list 0 false", 1)
            .is("wild 5 1 0", 0).is("wild 5 2 0", 1).is("take 0", 1).is("wild 5 1 0", 1).is("rule 5", 0);
        e.at(36, "it is ASKED, or, if it HOLDS, taken back").tell(Texts.EACH).is("clash 1 3 true", 0).is("wild 1 3 1", 0).is("wild 1 4 1", 1)
            .is("wild 1 6 1", 3).is("wild 1 6 0", 66).is("clash 1 3 false", 1).is("clash 1 6 true", 0).is("wild 1 6 1", 0)
            .is("clash 4 7 true", 0).is("wild 2 2 1", 0).is("wild 2 3 1", 1).is("wild 2 5 1", 1).is("wild 2 6 1", 2)
            .is("needs 5 4 true", 0).is("wild 12345 4 1", 0).is("needs 5 7 true", 0).is("wild 12345 4 0", 180);
        e.at(36, "By itself").tell(Texts.EACH).call("ask 0").is("wild 2 60 0", 255).is("rule 3", 1).is("rule 5", 1).is("wild 2 1 0", 17)
            .is("wild 2 1 0", 17);
        e.at(36, "BAD").tell("wish 0 0;").each(BAD, "wild 0 0 0", "wild 0 61 0", "wild 0 1 -1", "wild 0 1 2", "wild 0 -1 0")
            .each(BAD, "wild 0 " + LEAST + " 0", "wild 0 " + MOST + " 0", "wild 0 1 " + LEAST, "wild 0 1 " + MOST)
            .is("wild 0 1 0", 0).is("wild 0 60 1", 0);
        e.at(36, "STATE: there are none").is("wild 0 1 0", STATE).tell(Texts.ONES).each(STATE, "wild 0 1 0", "wild 0 60 1").tell("wish 0 0;")
            .is("wild 0 1 0", 0).is("text", 0).is("wild 0 1 0", STATE);
    }

    /** Which wish is asked for was reckoned apart, with whole numbers of any length. */
    private static void wildSeeds(Edges e) {
        String words = "the seed becomes seed times 1103515245 and 12345; bits 16 to 30 of it modulo WISHES";
        Run run = e.at(36, words).tell(Texts.EACH);
        int[] ofEight = {0, 6, 4, 3, 1, 7, 6, 4, 2, 0, 7, 5, 3, 2, 0, 6};
        for (int seed = 0; seed < ofEight.length; seed++) {
            run.is("wild " + seed + " 1 0", 1 << ofEight[seed]);
        }
        run.is("wild -1 1 0", 2).is("wild " + MOST + " 1 0", 2).is("wild " + LEAST + " 1 0", 1).is("wild 12345 1 0", 16);
        run.is("wild -12345 1 0", 16).is("wild -12345 3 0", 24).is("wild -12345 6 0", 217);
        run = e.at(36, words).tell("one dead;".repeat(7) + Texts.EACH.substring(72, 149));
        int[] ofSeven = {0, 3, 5, 2, 4, 0, 3, 6, 1, 4, 0, 3, 5, 2, 4, 0};
        for (int seed = 0; seed < ofSeven.length; seed++) {
            run.is("wild " + seed + " 1 0", 1 << ofSeven[seed]);
        }
        run.is("wild -1 1 0", 16).is("wild " + MOST + " 1 0", 16).is("wild " + LEAST + " 1 0", 1).is("wild -1 6 0", 16 + 64 + 32 + 4);
        run = e.at(36, words).tell("one dead;one dead;one dead;wish 0 0 0;wish 0 0 1;wish 0 0 2;");
        run.is("wild 0 1 0", 1).is("wild 0 2 0", 1).is("wild 0 3 0", 3).is("wild 1 1 0", 4).is("wild 1 2 0", 6).is("wild 1 3 0", 7);
        run.is("wild -1 2 0", 4).is("wild -1 3 0", 6).is("wild -1 4 0", 7).is("wild -12345 1 0", 4).is("wild -12345 3 0", 5);
    }
}
