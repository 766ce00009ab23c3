/** The edges of tokens, lines and the faults of a text. */
final class TokenEdges {
    private static final int TERMS = Edges.TERMS;

    private TokenEdges() {
    }

    static void all(Edges e) {
        tokens(e);
        lineBegins(e);
        letters(e);
        kinds(e);
        numbers(e);
        stops(e);
        repeats(e);
        theEnd(e);
        toldAlready(e);
        tooMany(e);
        thereIsNot(e);
        firstMet(e);
    }

    private static void fault(Edges e, String words, String text, int fault, int place) {
        e.at(TERMS, words).fault(text, fault, place);
    }

    private static void taken(Edges e, String words, String text, int lines) {
        e.at(TERMS, words).lines(text, lines);
    }

    private static void tokens(Edges e) {
        e.at(TERMS, "each as long as may be").fault("onedead;", 2, 0).fault("one deadalive;", 2, 4).fault("ones dead;", 2, 0)
            .fault("depth 12;", 3, 6).fault("wish 12;", 3, 5).fault("clash 01;", 2, 8).fault("depth 001;", 1, 6).lines("depth 08;", 1);
        e.at(TERMS, "blanks (32) between").lines("one dead;wish1 2;depth8;", 3).lines("  one  dead  ;  ", 1)
            .fault("one\tdead;", 1, 3).fault("one\ndead;", 1, 3).fault("one!dead;", 1, 3).fault("one" + (char) 31 + "dead;", 1, 3)
            .fault("depth 1 2;", 2, 8).fault("de pth 1;", 2, 0).fault("one dead ;;", 2, 10);
        e.at(TERMS, "NAMES (a .. z)").fault("a;", 2, 0).fault("z;", 2, 0).fault("`", 1, 0).fault("{", 1, 0).fault("A;", 1, 0)
            .fault("Z", 1, 0).fault("one`dead;", 1, 3).fault("one{", 1, 3).fault("one Dead;", 1, 4).fault("onE dead;", 2, 0);
        e.at(TERMS, "NUMBERS (1 or 2 figures)").lines("depth 0;", 1).lines("depth 00;", 1).fault("depth 9;", 3, 6)
            .fault("depth 99;", 3, 6).fault("depth 000;", 1, 6).fault("depth 0/;", 1, 7).fault("depth 0:", 1, 7)
            .fault("depth /", 1, 6).fault("depth :", 1, 6).fault("depth -1;", 1, 6).fault("depth +1;", 1, 6);
        e.at(TERMS, "one ;").lines("depth 0;", 1).fault("depth 0;;", 2, 8).fault("depth 0:", 1, 7).fault("depth 0<", 1, 7);
        Run run = e.at(TERMS, "1 no TOKEN");
        for (int c = 0; c < 128; c++) {
            boolean begins = c >= 'a' && c <= 'z' || c >= '0' && c <= '9' || c == ';';
            run.call("feed " + c).is("text", c == 32 ? 0 : -10);
            run.is("fault", c == 32 ? 0 : begins ? 2 : 1);
        }
    }

    /** Behind the first text nothing has been told, behind the second a line has. */
    private static void lineBegins(Edges e) {
        for (String ahead : new String[] {"", "one dead;", " ", "depth 1; "}) {
            int place = ahead.length();
            for (String name : new String[] {"one", "wish", "needs", "clash", "list", "plan"}) {
                fault(e, "line: one K ; | wish N N { N } ;", ahead + name, 2, place + name.length());
            }
            for (String name : new String[] {"on", "onee", "wis", "wishh", "need", "needss", "clas", "clashs", "lis", "lists",
                "dept", "depths", "pla", "plans", "alive", "dead", "barred", "k", "n", "line", "text"}) {
                fault(e, "a NAME that begins no line", ahead + name + ";", 2, place);
            }
            for (String token : new String[] {"1", "99", ";"}) {
                fault(e, "2 a TOKEN that can not stand there", ahead + token, 2, place);
            }
            fault(e, "a NUMBER that is too long (its first byte)", ahead + "100", 1, place);
            taken(e, "text: { line }", ahead, place < 2 ? 0 : 1);
        }
    }

    /** Names that are another one in one letter alone. */
    private static void letters(Edges e) {
        for (String name : new String[] {"one", "wish", "needs", "clash", "list", "depth", "plan", "alive", "dead", "barred"}) {
            boolean kind = name.equals("alive") || name.equals("dead") || name.equals("barred");
            String ahead = kind ? "one " : "";
            Run run = e.at(TERMS, kind ? "is no K" : "a NAME that begins no line");
            for (int i = 0; i < name.length(); i++) {
                run.fault(ahead + name.substring(0, i) + "x" + name.substring(i + 1) + " 0", 2, ahead.length());
            }
        }
    }

    private static void kinds(Edges e) {
        for (String kind : new String[] {"alive", "dead", "barred"}) {
            fault(e, "K: alive | dead | barred", "one " + kind, 2, 4 + kind.length());
            taken(e, "one K ;", "one " + kind + ";", 1);
        }
        for (String token : new String[] {"aliv", "alivee", "dea", "deadd", "barre", "barredd", "bar", "live", "one", "wish", "k"}) {
            fault(e, "is no K", "one " + token + ";", 2, 4);
        }
        for (String token : new String[] {"0", "9", "99", ";", ""}) {
            fault(e, "2 a TOKEN that can not stand there", "one " + token, 2, 4);
        }
        fault(e, "a NUMBER that is too long (its first byte)", "one 100;", 1, 4);
        fault(e, "1 no TOKEN", "one =;", 1, 4);
    }

    private static void numbers(Edges e) {
        number(e, "YEARS (0 to 9)", "wish ", 9);
        number(e, "a PRICE (0 to 9)", "wish 1 ", 9);
        number(e, "ONES (0 to 7) whom it NEEDS", "wish 1 1 ", 7);
        number(e, "ONES (0 to 7) whom it NEEDS", "wish 1 1 3 ", 7);
        number(e, "needs: a WISH (0 to 7)", "needs ", 7);
        number(e, "needs: a WISH (0 to 7), WISHES that it NEEDS", "needs 1 ", 7);
        number(e, "needs: a WISH (0 to 7), WISHES that it NEEDS", "needs 1 3 ", 7);
        number(e, "clash: two WISHES", "clash ", 7);
        number(e, "clash: two WISHES", "clash 1 ", 7);
        number(e, "list: a WISH on THE LIST", "list ", 7);
        number(e, "plan: a WISH more of THE PLAN", "plan ", 7);
        number(e, "DEPTH (0 to 8", "depth ", 8);
        for (String ahead : new String[] {"wish ", "wish 1 ", "needs ", "clash ", "clash 1 ", "list ", "depth ", "plan "}) {
            fault(e, "2 a TOKEN that can not stand there", ahead + ";", 2, ahead.length());
        }
    }

    /** Where a number from 0 to the most may stand; a number that is taken is told by the fault behind it. */
    private static void number(Edges e, String words, String ahead, int most) {
        int place = ahead.length();
        fault(e, words, ahead + 0, 2, place + 1);
        fault(e, words, ahead + most, 2, place + 1);
        fault(e, words, ahead + "0" + most, 2, place + 2);
        fault(e, "3 a NUMBER out of its bounds", ahead + (most + 1), 3, place);
        fault(e, "3 a NUMBER out of its bounds", ahead + 10 + ";", 3, place);
        fault(e, "3 a NUMBER out of its bounds", ahead + 99 + ";", 3, place);
        fault(e, "a NUMBER that is too long (its first byte)", ahead + "100;", 1, place);
        fault(e, "a NUMBER that is too long (its first byte)", ahead + "000", 1, place);
        fault(e, "1 no TOKEN", ahead + "-1", 1, place);
        for (String name : new String[] {"one", "alive", "a"}) {
            fault(e, "2 a TOKEN that can not stand there", ahead + name, 2, place);
        }
        fault(e, "or the end: the length", ahead, 2, place);
        fault(e, "or the end: the length", ahead + "   ", 2, place + 3);
    }

    private static void stops(Edges e) {
        for (String ahead : new String[] {"one dead ", "clash 1 2 ", "list 1 ", "depth 1 ", "plan 1 "}) {
            int place = ahead.length();
            for (String token : new String[] {"one", "alive", "0", "9", "99"}) {
                fault(e, "2 a TOKEN that can not stand there", ahead + token, 2, place);
            }
            fault(e, "a NUMBER that is too long (its first byte)", ahead + "100", 1, place);
            fault(e, "1 no TOKEN", ahead + ":", 1, place);
            fault(e, "or the end: the length", ahead, 2, place);
        }
        taken(e, "clash N N ;", "wish 0 0;wish 0 0;clash 1 0;", 3);
        taken(e, "list N ;", "wish 0 0;list 0;", 2);
        taken(e, "plan N ;", "wish 0 0;plan 0;", 2);
        taken(e, "depth N ;", "depth 8;", 1);
    }

    /** No number, and as many as there can be. */
    private static void repeats(Edges e) {
        e.at(TERMS, "wish N N { N } ;").lines("wish 0 9;", 1).is("wish 0 2", 0)
            .lines(Texts.ONES + "wish 9 0 7 6 5 4 3 2 1 0;", 9).is("wish 0 2", 255).is("wish 0 0", 9).is("wish 0 1", 0);
        e.at(TERMS, "needs N { N } ;").lines("wish 0 0;needs 0;", 2).is("wish 0 3", 0)
            .lines(Texts.WISHES + "needs 7 0 1 2 3 4 5 6;", 9).is("wish 7 3", 127);
    }

    private static void theEnd(Edges e) {
        for (String text : new String[] {"one", "one dead", "wish", "wish 1", "wish 1 1", "wish 1 1 0", "needs", "needs 0", "needs 0 1",
            "clash", "clash 0", "clash 0 1", "list", "list 0", "depth", "depth 0", "plan", "plan 0", "one dead;one"}) {
            fault(e, "or the end: the length", text, 2, text.length());
            fault(e, "or the end: the length", text + "  ", 2, text.length() + 2);
        }
        e.at(TERMS, "or the end: the length").fault(" ".repeat(157) + "one", 2, 160);
        e.at(TERMS, "or the end: the length").fault("depth 1" + " ".repeat(153), 2, 160);
        e.at(TERMS, "or the end: the length").fault(" ".repeat(153) + "depth 8", 2, 160).lines(" ".repeat(152) + "depth 8;", 1);
    }

    private static void toldAlready(Edges e) {
        e.at(TERMS, "4 depth for the second time (its NAME)").fault("depth 1;depth 2;", 4, 8).fault("depth 0;depth", 4, 8)
            .fault("depth 0;one dead; depth 9", 4, 18).lines("depth 1;", 1).lines("depth 2;", 1).fault("depths 1;", 2, 0);
        e.at(TERMS, "a ONE told already in this line").fault("wish 0 0 3 3;", 4, 11).fault("wish 0 0 3 4 03", 4, 13)
            .fault("wish 0 0 0 1 2 3 4 5 6 7 7;", 4, 25).lines("one dead;wish 0 0 0;wish 0 0 0;", 3)
            .lines("one dead;one dead;wish 0 0 0 1;", 3).fault("wish 1 1 2 1 1", 4, 13);
        e.at(TERMS, "a WISH that is the first one of the line").fault("needs 0 0;", 4, 8).fault("needs 7 6 7", 4, 10)
            .fault("clash 0 0;", 4, 8).fault("clash 7 07", 4, 8).lines("wish 0 0;wish 0 0;needs 1 0;clash 1 0;", 4);
        e.at(TERMS, "or is NEEDED by it").fault("needs 0 1 1;", 4, 10).fault("needs 0 1;needs 0 1", 4, 18)
            .fault("needs 0 1;needs 0 2 1", 4, 20).fault("needs 0 1 2 3 4 5 6 7 7;", 4, 22)
            .lines("wish 0 0;wish 0 0;needs 0 1;needs 1 0;", 4).lines("wish 0 0;wish 0 0;clash 0 1;needs 0 1;", 4);
        e.at(TERMS, "CLASHES with it already").fault("clash 0 1;clash 0 1;", 4, 18).fault("clash 0 1;clash 1 0", 4, 18)
            .lines("wish 0 0;wish 0 0;wish 0 0;clash 0 1;clash 0 2;clash 1 2;", 6).lines("wish 0 0;wish 0 0;needs 0 1;clash 0 1;", 4);
        e.at(TERMS, "CLASHES with it already").fault("clash 0 1;clash 0 2;clash 0 1;", 4, 28).fault("clash 1 0;clash 2 0;clash 1 0;", 4, 28)
            .fault("clash 0 1;clash 2 0;clash 1 0;", 4, 28).fault("clash 1 0;clash 0 2;clash 0 1;", 4, 28);
        e.at(TERMS, "a WISH on THE LIST already (it)").fault("list 0;list 0;", 4, 12).fault("list 7;list 6;list 07", 4, 19)
            .lines("wish 0 0;wish 0 0;list 0;list 1;", 4).lines("wish 0 0;list 0;", 2).lines("wish 0 0;list 0;", 2);
        e.at(TERMS, "plan: a WISH more of THE PLAN").lines("wish 0 0;plan 0;plan 0;", 3).is("rule 7", 2);
    }

    private static void tooMany(Edges e) {
        String plans = "plan 0;".repeat(6);
        e.at(TERMS, "5 the 9th one").fault(Texts.ONES + "one dead;", 5, 72).lines(Texts.ONES, 8).lines(Texts.ONES, 8);
        e.at(TERMS, "5 the 9th one").fault(Texts.ONES + "  one", 5, 74).fault(Texts.ONES + "one A", 5, 72);
        e.at(TERMS, "5 the 9th one").fault(Texts.ONES + "ones", 2, 72).fault("one dead;".repeat(10), 5, 72);
        e.at(TERMS, "the 9th wish").fault(Texts.WISHES + "wish 0 0;", 5, 72).lines(Texts.WISHES, 8).lines(Texts.WISHES, 8);
        e.at(TERMS, "the 9th wish").fault(Texts.WISHES + " wish", 5, 73).fault(Texts.WISHES + "wish 100", 5, 72);
        e.at(TERMS, "the 7th plan (its NAME)").fault(plans + "plan 0;", 5, 42).lines("wish 0 0;" + plans, 7)
            .fault(plans + "plan", 5, 42).fault(plans + " plan 8", 5, 43).lines("wish 0 0;" + plans, 7);
    }

    /** The last that there is, and the one behind it, in every place where a one or a wish is told. */
    private static void thereIsNot(Edges e) {
        e.at(TERMS, "Behind all (the length): 6 a ONE").fault("wish 0 0 0;", 6, 11).lines("one dead;wish 0 0 0;", 2)
            .fault("one dead;wish 0 0 1;", 6, 20).fault("one dead;wish 0 0 0 1;  ", 6, 24).lines("wish 0 0 1;one dead;one dead;", 3)
            .fault("wish 0 0 7;", 6, 11);
        String sevenOnes = "one dead;".repeat(7);
        e.at(TERMS, "Behind all (the length): 6 a ONE").fault(sevenOnes + "wish 0 0 7;", 6, 74).lines(sevenOnes + "wish 0 0 6;", 8)
            .lines(Texts.ONES + "wish 0 0 7;", 9);
        String[] lines = {"needs #;", "needs # 0;", "needs 0 #;", "clash # 0;", "clash 0 #;", "list #;", "plan #;"};
        String two = "wish 0 0;wish 0 0;";
        for (String line : lines) {
            String last = line.replace("#", "1");
            String behind = line.replace("#", "2");
            e.at(TERMS, "a WISH that there is not").lines(two + last, 3).fault(two + behind, 6, two.length() + line.length())
                .lines(last + two, 3).fault(behind + two, 6, two.length() + line.length()).lines(behind + two + "wish 0 0;", 4)
                .fault(two + line.replace("#", "7") + " ", 6, two.length() + line.length() + 1);
        }
        for (String line : lines) {
            String last = line.replace("#", "7");
            e.at(TERMS, "a WISH that there is not").lines(Texts.WISHES + last, 9)
                .fault("wish 0 0;".repeat(7) + last, 6, 63 + line.length());
        }
        e.at(TERMS, "Behind all (the length): 6 a ONE").fault(" ".repeat(153) + "list 0;", 6, 160);
        for (String line : new String[] {"needs 0;", "needs 0 1;", "clash 0 1;", "list 0;", "plan 0;", "wish 0 0;", "wish 0 0 0;"}) {
            e.at(TERMS, "Behind all (the length): 6 a ONE").fault("one dead;wish 0 0 1;wish 0 0 0;" + line, 6, 31 + line.length())
                .lines("one dead;wish 0 0 0;wish 0 0 0;" + line, 4);
            e.at(TERMS, "a WISH that there is not").fault("plan 7;one dead;wish 0 0;wish 0 0;" + line, 6, 34 + line.length())
                .fault("clash 3 0;one dead;wish 0 0;wish 0 0;" + line, 6, 37 + line.length())
                .fault("list 3;one dead;wish 0 0;wish 0 0;" + line, 6, 34 + line.length())
                .fault("needs 3;one dead;wish 0 0;wish 0 0;" + line, 6, 35 + line.length());
        }
    }

    private static void firstMet(Edges e) {
        Run run = e.at(TERMS, "the first met as it is read (a TOKEN is read when the one before has been taken)");
        run.fault("depth 9A", 3, 6).fault("depth 8A", 1, 7).fault("depth 1;depth A", 4, 8).fault("foo A", 2, 0).fault("one foo A", 2, 4)
            .fault("list 0;list 0A", 4, 12).fault("list 8;list 8", 3, 5).fault("needs 9 9", 3, 6).fault("needs 1 1 9", 4, 8)
            .fault("wish 0 0 1 1 8", 4, 11).fault("wish 0 0 8 8", 3, 9).fault("list 0;depth 9;", 3, 13).fault("list 0;foo", 2, 7)
            .fault("list 0;100", 1, 7).fault("clash 1 1 1", 4, 8).fault("clash 1 8", 3, 8).fault("depth 1 1", 2, 8);
        run = e.at(TERMS, "the first met as it is read (a TOKEN is read when the one before has been taken)");
        run.fault("plan 7;".repeat(6) + "plan 8;", 5, 42).fault("plan 7;".repeat(6) + "foo", 2, 42).fault(Texts.ONES + "one 100", 5, 72)
            .fault("list 0;list 1;list 1 foo", 4, 19);
    }
}
