/** The edges of a new object, the tape, the text as a whole, and what it tells (promises 1 to 8). */
final class TextEdges {
    private static final int TERMS = Edges.TERMS;
    private static final int BAD = Run.BAD, STATE = Run.STATE, FULL = Run.FULL, NONE = Run.NONE;

    private TextEdges() {
    }

    static void all(Edges e) {
        people(e);
        wishes(e);
        takenText(e);
        newObject(e);
        feed(e);
        end(e);
        text(e);
        places(e);
        fault(e);
        rule(e);
        wish(e);
        plan(e);
    }

    private static void people(Edges e) {
        String eight = "one alive;one dead;one barred;one dead;one barred;one dead;one dead;one alive;";
        e.at(TERMS, "PEOPLE (8 at most, by order)").tell(eight).is("rule 0", 8).is("rule 3", 129).is("rule 4", 20)
            .each(BAD, "live 8 true", "bar 8 true", "live -1 true").is("live 7 true", 1).is("live 0 true", 1).is("bar 4 true", 1)
            .fault(Texts.ONES + "one alive;", 5, 72).is("rule 0", 8).is("rule 3", 129);
        e.at(TERMS, "alive: he LIVES; barred: he does not and is BARRED").tell("one alive;").is("rule 3", 1).is("rule 4", 0)
            .tell("one dead;").is("rule 3", 0).is("rule 4", 0).tell("one barred;").is("rule 3", 0).is("rule 4", 1);
    }

    private static void wishes(Edges e) {
        Run run = e.at(TERMS, "WISHES (8 at most, by order)");
        run.tell("wish 0 9;wish 1 8;wish 2 7;wish 3 6;wish 4 5;wish 5 4;wish 8 1;wish 9 0;").is("rule 1", 8);
        for (int w = 0; w < 8; w++) {
            run.is("wish " + w + " 0", w < 6 ? w : w + 2).is("wish " + w + " 1", w < 6 ? 9 - w : 7 - w);
        }
        run.each(BAD, "wish 8 0", "wish -1 0").fault(Texts.WISHES + "wish 0 0;", 5, 72).is("rule 1", 8);
        e.at(TERMS, "YEARS (0 to 9)").lines("wish 0 5;wish 9 5;", 2).is("wish 0 0", 0).is("wish 1 0", 9).fault("wish 10 5;", 3, 5);
        e.at(TERMS, "a PRICE (0 to 9)").lines("wish 5 0;wish 5 9;", 2).is("wish 0 1", 0).is("wish 1 1", 9).fault("wish 5 10;", 3, 7);
        e.at(TERMS, "WISHES with which it CLASHES (both ways)").tell(Texts.WISHES + "clash 7 0;").is("wish 7 4", 1).is("wish 0 4", 128)
            .tell("wish 0 0;wish 0 0;wish 0 0;wish 0 0;clash 0 1;clash 0 2;clash 3 0;clash 1 2;").is("wish 0 4", 14).is("wish 1 4", 5)
            .is("wish 2 4", 3).is("wish 3 4", 1);
        e.at(TERMS, "it HOLDS or not (at first not), it is on THE LIST or not").tell(Texts.WISHES + "list 7;list 0;")
            .is("rule 5", 0).is("rule 6", 129);
        e.at(TERMS, "DEPTH (0 to 8; 0 at first)").is("rule 2", 0).tell("depth 8;").is("rule 2", 8).tell("depth 0;").is("rule 2", 0)
            .tell("depth 5;").is("rule 2", 5).tell("one dead;").is("rule 2", 0).fault("depth 9;", 3, 6);
        e.at(TERMS, "A PLAN: WISHES, one behind another (6 at most)").tell(Texts.WISHES + "plan 7;plan 0;plan 7;plan 1;plan 6;plan 0;")
            .is("rule 7", 6).is("plan 0", 7).is("plan 1", 0).is("plan 2", 7).is("plan 5", 0).is("plan 6", BAD)
            .fault("plan 0;".repeat(7), 5, 42).is("rule 7", 6);
    }

    private static void takenText(Edges e) {
        String whole = "one alive;one barred;wish 1 2 0;wish 3 4 1;needs 0 1;clash 0 1;list 1;depth 3;plan 1;plan 0;";
        Run run = e.at(TERMS, "A text that is taken tells all, in place of what there was").lines(whole, 10).lines("one dead;wish 5 6;", 2);
        int[] rules = {1, 1, 0, 0, 0, 0, 0, 0};
        int[] wish = {5, 6, 0, 0, 0, 1, 0};
        for (int what = 0; what < 8; what++) {
            run.is("rule " + what, rules[what]);
        }
        for (int what = 0; what < 7; what++) {
            run.is("wish 0 " + what, wish[what]);
        }
        run.is("wish 1 0", BAD).is("plan 0", BAD).is("live 1 true", BAD).is("text", 0);
        for (int what = 0; what < 8; what++) {
            run.is("rule " + what, 0);
        }
        run.is("wish 0 0", BAD).is("live 0 true", BAD);
        String small = "one dead;wish 1 1 0;";
        e.at(TERMS, "nothing HOLDS").tell(small).is("ask 0", 1).is("rule 5", 1).lines(small, 2).is("rule 5", 0).is("count 1", 0)
            .is("rule 3", 0).is("ask 0", 1).is("text", 0).is("rule 5", 0).is("clashes", 0).is("broken", 0).lines(small, 2)
            .is("rule 5", 0).is("rule 3", 0).is("ask 0", 1).lines(small, 2).lines(small, 2).is("rule 5", 0).is("rule 3", 0);
        e.at(TERMS, "nothing is SEEN").tell(small).is("see 0 true", 1).is("see 0 false", 2).is("fits 0", 0).lines(small, 2)
            .is("count 2", 0).is("fits 0", 2).is("forget 1", BAD).is("see 0 true", 1).is("fits 0", 1).lines(small, 2)
            .is("count 2", 0).is("fits 0", 2).is("see 0 false", 1).lines(small, 2).lines(small, 2).is("count 2", 0).is("fits 0", 2);
        e.at(TERMS, "IMAGES are gone").tell(small).call("keep 0", "keep 1").is("count 3", 2).lines(small, 2).is("count 3", 0)
            .each(STATE, "back 0", "back 1").is("keep 0", 0).is("keep 1", 0).is("text", 0).each(STATE, "back 0", "back 1");
        e.at(TERMS, "A text that is taken tells all").is("sheet 0 1 3", 1).is("sheet 3 2 1", 1).is("lay 0 2 1", 1).is("read 1 0 0 1", 0)
            .lines("wish 0 0;wish 0 0;", 2).is("count 5", 3).is("torn", 1).is("read 0 1 2 1", 1).is("rule 5", 2).is("text", 0).is("count 5", 3)
            .is("lay 3 0 0", 1).is("lay 3 1 0", -12).is("lay 1 0 0", -11);
        e.at(4, "that which was told stays").tell(whole).call("list 1 false", "live 1 true", "clash 0 1 false", "ask 0", "keep 1")
            .call("see 0 true", "see 1 false", "sheet 0 1 3", "lay 0 0 1").fault("one dead;wish 9 9;depth 8;list 0;fo", 2, 33)
            .is("rule 5", 3).is("count 2", 2).is("count 3", 1).is("back 1", 3).is("rule 2", 3).is("back 0", STATE);
    }

    private static void newObject(Edges e) {
        Run run = e.at(1, "Nobody, no WISHES");
        for (int what = 0; what < 8; what++) {
            run.is("rule " + what, 0).is("count " + what, what == 5 ? NONE : 0);
        }
        run.each(BAD, "live 0 true", "bar 0 true", "see 0 true", "row 0 0", "row 0 10", "cheap 0", "deep 0", "fewest 0 0");
        run.each(BAD, "odds 0 0 0", "wish 0 0", "plan 0", "list 0 true", "asks 0 0 true", "needs 0 1 true", "clash 0 1 true");
        run.each(BAD, "plans 0", "looks 0", "refuses 0", "ask 0", "take 0", "date 0", "cut 1", "forget 1", "end 1");
        run.each(0, "all", "clashes", "broken", "rid 0", "rid 1", "fits 1", "fits 2", "fits 3", "fault", "torn", "text");
        run.is("fits 0", 1).each(NONE, "set 0", "set 1").each(STATE, "wild 0 1 0", "back 0", "back 1");
        run.each(0, "cut 0", "forget 0", "end 0", "keep 0", "back 0").is("depth 8", 0);
        run = e.at(1, "SHEETS of nothing").is("count 5", NONE);
        for (int k = 0; k < 4; k++) {
            run.is("lay " + k + " 0 0", -11);
            for (int lane = 0; lane < 3; lane++) {
                run.is("read " + k + " " + lane + " 0 0", 0).is("torn", 0).is("read " + k + " " + lane + " 0 1", 0).is("torn", 1);
            }
        }
    }

    private static void feed(Edges e) {
        e.at(2, "A byte (0 to 127)").is("feed 0", 1).is("feed 127", 2).is("feed 64", 3).each(BAD, "feed -1", "feed 128").is("count 4", 3);
        e.at(2, "how many it has").is("count 4", 0).is("feed 32", 1).is("feed 32", 2).is("end 1", 2).is("feed 32", 2).is("text", 0)
            .is("feed 32", 1);
        e.at(2, "BAD").each(BAD, "feed -1", "feed 128", "feed 255", "feed 256", "feed -128", "feed " + Run.LEAST, "feed " + Run.MOST)
            .is("count 4", 0);
        Run run = e.at(2, "FULL: more than 160");
        for (int n = 1; n <= 160; n++) {
            run.is("feed " + (n == 160 ? 65 : 32), n);
        }
        run.each(FULL, "feed 32", "feed 0", "feed 127").is("count 4", 160).is("end 159", 160).is("feed 32", 160).is("feed 32", FULL)
            .is("text", 0).is("feed 32", 1);
    }

    private static void end(Edges e) {
        e.at(3, "THE TAPE keeps its first n bytes: how many it had").is("end 0", 0).feed("one dead;x").is("end 10", 10).is("end 9", 10)
            .is("count 4", 9).is("end 9", 9).is("text", 1).is("rule 0", 1).feed("one dead;").is("end 3", 9).feed(" alive;")
            .is("text", 1).is("rule 3", 1).feed("foo").is("end 0", 3).is("text", 0).is("rule 0", 0);
        e.at(3, "BAD").each(BAD, "end -1", "end 1", "end " + Run.LEAST, "end " + Run.MOST).feed("one d").each(BAD, "end 6", "end -1")
            .is("end 3", 5).each(BAD, "end 4", "end 5").is("count 4", 3).is("end 2", 3).is("text", -10).each(BAD, "end 1").is("end 0", 0);
        e.at(3, "BAD").feed(" ".repeat(160)).each(BAD, "end 161", "end -1").is("end 160", 160).is("end 159", 160).is("end 160", BAD);
    }

    private static void text(Edges e) {
        e.at(4, "THE TAPE (empty then)").feed("one dead;").is("count 4", 9).is("text", 1).is("count 4", 0).is("feed 32", 1).is("end 0", 1)
            .feed("foo").is("text", -10).is("count 4", 0).is("text", 0).is("feed 32", 1);
        e.at(4, "how many lines").is("text", 0).lines("one dead;", 1).lines("one dead;one dead;", 2).lines("   ", 0);
        e.at(4, "how many lines").lines(" ".repeat(160), 0).lines("wish0 0;" + "needs0;".repeat(21) + " ".repeat(5), 22);
        e.at(4, "how many lines").lines(Texts.EACH, 16).is("rule 0", 8).is("rule 1", 8).is("wish 7 2", 128).is("wish 0 2", 1);
        e.at(TERMS, "THE TAPE has 160 bytes, places from 0.").feed(Texts.EACH).is("count 4", 160).is("feed 59", FULL).is("text", 16)
            .fault("!", 1, 0);
    }

    private static void places(Edges e) {
        e.at(4, "-10 less the place of its FAULT").fault("A", 1, 0).fault(" A", 1, 1).fault("one dead;A", 1, 9).fault("depth", 2, 5);
        e.at(4, "-10 less the place of its FAULT").fault(" ".repeat(159) + "A", 1, 159).fault(" ".repeat(159) + ";", 2, 159);
        e.at(4, "-10 less the place of its FAULT").fault(" ".repeat(158) + "on", 2, 158).fault(" ".repeat(157) + "one", 2, 160);
        e.at(4, "-10 less the place of its FAULT").fault(Texts.EACH.substring(0, 159), 2, 159).fault(Texts.EACH.substring(0, 159) + ":", 1, 159);
        e.at(4, "-10 less the place of its FAULT").fault(" ".repeat(157) + "100", 1, 157).fault("depth 1;" + " ".repeat(147) + "depth", 4, 155);
    }

    private static void fault(Edges e) {
        Run run = e.at(5, "The FAULT of the latest text(); 0.").is("fault", 0).fault("A", 1, 0).is("fault", 1).fault("a", 2, 0);
        run.fault("depth 9", 3, 6).fault("list 0;list 0;", 4, 12).fault("plan 0;".repeat(7), 5, 42).fault("list 0;", 6, 7);
        run.call("feed 65", "end 0", "keep 0", "back 0", "depth 1", "sheet 0 0 1").is("fault", 6).is("read 1 0 0 1", 0).is("torn", 1);
        run.is("fault", 6).is("feed 128", BAD).is("fault", 6).is("text", 0).is("fault", 0).fault("foo", 2, 0).lines("one dead;", 1);
    }

    private static void rule(Edges e) {
        String words = "0 PEOPLE, 1 WISHES, 2 DEPTH, 3 who LIVE, 4 who are BARRED, 5 WISHES that HOLD, 6 THE LIST (bits each), 7 how many THE PLAN has";
        Run run = e.at(6, words).tell(Texts.ONES + Texts.WISHES + "plan 0;depth 8;").call("plans 0", "plans 0", "plans 0", "plans 0", "plans 0");
        int[] none = {8, 8, 8, 0, 0, 0, 0, 6};
        int[] most = {8, 8, 8, 255, 255, 255, 255, 6};
        for (int what = 0; what < 8; what++) {
            run.is("rule " + what, none[what]);
        }
        for (int i = 0; i < 8; i++) {
            run.call("live " + i + " true", "bar " + i + " true", "ask " + i, "list " + i + " true");
        }
        for (int what = 0; what < 8; what++) {
            run.is("rule " + what, most[what]);
        }
        run.call("cut 0", "depth 0", "take 7", "list 0 false", "live 7 false", "bar 0 false");
        run.is("rule 7", 0).is("rule 2", 0).is("rule 5", 127).is("rule 6", 254).is("rule 3", 127).is("rule 4", 254);
        e.at(6, "BAD").each(BAD, "rule -1", "rule 8", "rule " + Run.LEAST, "rule " + Run.MOST).is("rule 0", 0).is("rule 7", 0);
    }

    private static void wish(Edges e) {
        String words = "0 YEARS, 1 PRICE, 2 ONES, 3 WISHES that it NEEDS, 4 with which it CLASHES, 5 WISHES that FOLLOW, 6 ONES whom all these NEED (bits each)";
        Run run = e.at(7, words).tell(Texts.WISHES.substring(9) + "wish 9 9 0;one dead;").is("wish 0 2", 0).is("wish 7 2", 1);
        int[] alone = {9, 9, 1, 0, 0, 128, 1};
        for (int what = 0; what < 7; what++) {
            run.is("wish 7 " + what, alone[what]).is("wish 0 " + what, what == 5 ? 1 : 0);
        }
        for (int w = 1; w < 8; w++) {
            run.call("needs 0 " + w + " true", "clash 0 " + w + " true");
        }
        int[] all = {0, 0, 0, 254, 254, 255, 1};
        for (int what = 0; what < 7; what++) {
            run.is("wish 0 " + what, all[what]);
        }
        run.is("wish 7 4", 1).is("wish 7 3", 0).is("wish 7 5", 128);
        run = e.at(7, "6 ONES whom all these NEED (bits each)").tell(Texts.EACH);
        for (int w = 0; w < 8; w++) {
            run.call("needs " + w + " " + (w + 1) % 8 + " true").is("wish 0 5", (1 << Math.min(w + 2, 8)) - 1);
            run.is("wish 0 6", (1 << Math.min(w + 2, 8)) - 1);
        }
        run.is("wish 7 5", 255).is("wish 7 6", 255).is("ask 3", 8).is("wish 7 5", 255).is("wish 7 6", 255);
        e.at(7, "BAD").tell("wish 1 2;wish 3 4;").each(BAD, "wish -1 0", "wish 2 0", "wish 0 -1", "wish 0 7", "wish 1 " + Run.MOST)
            .each(BAD, "wish 1 " + Run.LEAST, "wish " + Run.MOST + " 0", "wish " + Run.LEAST + " 0").is("wish 1 0", 3).is("wish 1 6", 0);
        e.at(7, "BAD").tell(Texts.WISHES).is("wish 7 5", 128).each(BAD, "wish 8 5", "wish 8 0", "wish -1 5");
        e.at(TERMS, "OF a WISH FOLLOW it, the WISHES that it NEEDS, those that these NEED, and so on").tell(Texts.WISHES + Texts.CHAIN)
            .is("wish 0 5", 255).is("wish 1 5", 254).is("wish 6 5", 192).is("wish 7 5", 128).is("needs 7 0 true", 0).is("wish 7 5", 255)
            .is("needs 3 4 false", 1).is("wish 0 5", 15).is("wish 4 5", 255);
    }

    private static void plan(Edges e) {
        e.at(8, "WISH i of THE PLAN").tell(Texts.WISHES + "plan 7;plan 0;plan 6;plan 1;plan 5;plan 2;").is("plan 0", 7).is("plan 1", 0)
            .is("plan 2", 6).is("plan 3", 1).is("plan 4", 5).is("plan 5", 2).each(BAD, "plan 6", "plan -1");
        e.at(8, "BAD").each(BAD, "plan 0", "plan -1").tell("wish 0 0;plan 0;").is("plan 0", 0)
            .each(BAD, "plan 1", "plan -1", "plan " + Run.LEAST, "plan " + Run.MOST).is("cut 0", 1).is("plan 0", BAD);
    }
}
