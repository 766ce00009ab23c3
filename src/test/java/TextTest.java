/** Promises 1 to 8: a new object, the tape, the text and what it tells. */
public final class TextTest {
    private static final Due due = new Due();

    public static void main(String[] args) {
        newObject();
        tape();
        tellingText();
        keptOnFault();
        nothingOfTheTextBefore();
        severalLines();
        blanksAndRuns();
        faultOne();
        faultTwo();
        faultThree();
        faultFour();
        faultFive();
        faultSix();
        orderOfFaults();
        rule();
        wish();
        plan();
        due.end("TextTest");
    }

    private static void newObject() {
        WishClerk x = new WishClerk();
        for (int what = 0; what <= 7; what++) {
            due.is("P1 rule " + what, x.rule(what), 0);
            due.is("P1 count " + what, x.count(what), what == 5 ? -4 : 0);
        }
        due.is("P1 nobody", x.live(0, true), -1);
        due.is("P1 no wish", x.wish(0, 0), -1);
        due.is("P1 no plan", x.plan(0), -1);
        due.is("P1 fault", x.fault(), 0);
        due.is("P1 torn", x.torn(), 0);
        for (int k = 0; k < 4; k++) {
            due.is("P1 sheet of nothing", x.lay(k, 0, 0), -11);
        }
        due.is("P1 no image", x.back(0), -2);
    }

    private static void tape() {
        WishClerk x = new WishClerk();
        due.is("P2 below", x.feed(-1), -1);
        due.is("P2 above", x.feed(128), -1);
        due.is("P2 least", x.feed(0), 1);
        due.is("P2 most", x.feed(127), 2);
        for (int i = 3; i <= 160; i++) {
            due.is("P2 feed", x.feed(' '), i);
        }
        due.is("P2 full", x.feed(' '), -3);
        due.is("P2 bad ahead of full", x.feed(128), -1);
        due.is("P2 count", x.count(4), 160);
        due.is("P3 below", x.end(-1), -1);
        due.is("P3 above", x.end(161), -1);
        due.is("P3 all", x.end(160), 160);
        due.is("P3 some", x.end(100), 160);
        due.is("P3 had", x.end(101), -1);
        due.is("P3 none", x.end(0), 100);
        due.is("P3 count", x.count(4), 0);
        due.is("P3 of none", x.end(0), 0);
        x.feed('o');
        x.feed('n');
        x.feed('x');
        due.is("P3 first bytes", x.end(2), 3);
        due.is("P3 told", Due.tell(x, "e dead;"), 1);
    }

    private static void tellingText() {
        WishClerk x = new WishClerk();
        due.is("P4 lines", Due.tell(x, "one alive;one dead;one barred;wish 3 4 2 0;wish 9 0;"
                + "needs 0 1;clash 0 1;list 1;depth 8;plan 1;plan 1;"), 11);
        due.is("P4 tape", x.count(4), 0);
        due.is("P5 none", x.fault(), 0);
        int[] want = {3, 2, 8, 1, 4, 0, 2, 2};
        for (int what = 0; what < want.length; what++) {
            due.is("P6 rule " + what, x.rule(what), want[what]);
        }
        x.see(0, true);
        x.ask(0);
        x.list(1, false);
        x.keep(0);
        x.keep(1);
        x.sheet(0, 2, 3);
        due.is("P4 empty text", x.text(), 0);
        for (int what = 0; what <= 7; what++) {
            due.is("P4 in place of what was: " + what, x.rule(what), 0);
        }
        due.is("P4 nothing seen", x.count(2), 0);
        due.is("P4 images gone", x.count(3), 0);
        due.is("P4 image gone", x.back(1), -2);
        due.is("P4 sheets stay", x.count(5), 3);
        due.is("P4 text again", Due.tell(x, "one dead;wish 1 1;"), 2);
        due.is("P4 nothing needed of old", x.wish(0, 2), 0);
        due.is("P4 no clash of old", x.wish(0, 4), 0);
        due.is("P4 no wish needed of old", x.wish(0, 3), 0);
        due.is("P4 nothing holds", x.rule(5), 0);
    }

    private static void keptOnFault() {
        WishClerk x = Due.told("one alive;wish 1 2 0;list 0;depth 3;plan 0;");
        x.list(0, false);
        x.ask(0);
        x.keep(1);
        x.see(0, true);
        due.is("P4 fault", Due.tell(x, "one dead;wish 5 5;depth 2;foo;"), -10 - 26);
        due.is("P5 fault", x.fault(), 2);
        due.is("P4 tape empty", x.count(4), 0);
        int[] want = {1, 1, 3, 1, 0, 1, 0, 1};
        for (int what = 0; what < want.length; what++) {
            due.is("P4 stays " + what, x.rule(what), want[what]);
        }
        due.is("P4 years stay", x.wish(0, 0), 1);
        due.is("P4 ones stay", x.wish(0, 2), 1);
        due.is("P4 seen stays", x.count(2), 1);
        due.is("P4 image stays", x.back(1), 1);
        due.is("P5 fault stays", x.fault(), 2);
        due.is("P4 then taken", Due.tell(x, "one dead;"), 1);
        due.is("P5 gone", x.fault(), 0);
    }

    private static void nothingOfTheTextBefore() {
        WishClerk x = Due.told("one alive;");
        String whole = "one alive;one barred;wish 1 1 1;wish 1 1 0;needs 0 1;clash 0 1;list 1;depth 5;plan 1;";
        due.is("P4 faulty", Due.tell(x, whole + "foo"), -10 - whole.length());
        due.is("P4 taken", Due.tell(x, "one dead;wish 1 1;wish 1 1;"), 3);
        int[] want = {1, 2, 0, 0, 0, 0, 0, 0};
        for (int what = 0; what < want.length; what++) {
            due.is("P4 nothing of the faulty one, rule " + what, x.rule(what), want[what]);
        }
        for (int what = 2; what <= 4; what++) {
            due.is("P4 nothing of the faulty one, wish " + what, x.wish(0, what), 0);
        }
        Due.tell(x, whole);
        x.list(1, false);
        x.live(1, true);
        x.ask(1);
        x.see(0, true);
        Due.tell(x, "one dead;wish 1 1;");
        Due.tell(x, "one dead;wish 1 1;");
        due.is("P4 nothing holds of the one before the last", x.rule(5), 0);
        due.is("P4 nothing seen of it", x.count(2), 0);
        due.is("P4 nobody lives of it", x.rule(3), 0);
    }

    private static void severalLines() {
        String eight = "wish 0 0;wish 0 0;wish 0 0;wish 0 0;wish 0 0;wish 0 0;wish 0 0;wish 0 0;";
        WishClerk x = Due.told(eight + "clash 7 0;clash 0 6;clash 5 7;list 7;list 2;plan 7;plan 1;needs 7 6;needs 7 5 4;");
        due.is("P4 clashes of 0", x.wish(0, 4), 192);
        due.is("P4 clashes of 7", x.wish(7, 4), 33);
        due.is("P4 list", x.rule(6), 132);
        due.is("P4 plan", x.plan(0), 7);
        due.is("P4 needs", x.wish(7, 3), 112);
        x = Due.told(eight + "needs 0 1 2 3 4 5 6 7;one dead;");
        due.is("P4 needs all others", x.wish(0, 3), 254);
        x = Due.told("one dead;one dead;one dead;one dead;one dead;one dead;one dead;one dead;wish 0 0 7 6 5 4 3 2 1 0;");
        due.is("P4 needs all ones", x.wish(0, 2), 255);
    }

    private static void blanksAndRuns() {
        WishClerk x = new WishClerk();
        due.is("P4 blanks", Due.tell(x, "  one   dead  ;  wish 1 01 00 ;  "), 2);
        due.is("P4 price 01", x.wish(0, 1), 1);
        due.is("P4 one 00", x.wish(0, 2), 1);
        due.is("P4 no blanks", Due.tell(x, "one dead;wish1 2 0;depth8;"), 3);
        due.is("P4 depth8", x.rule(2), 8);
        due.is("P4 blanks alone", Due.tell(x, "   "), 0);
        due.is("P4 needs none", Due.tell(x, "wish 0 0;needs 0;"), 2);
        due.is("P4 forward", Due.tell(x, "plan 1;needs 0 1;clash 1 0;list 1;wish 0 0 0;wish 0 0;one dead;"), 7);
    }

    private static void fault(String text, int place, int fault) {
        WishClerk x = new WishClerk();
        due.is("P4 of " + text, Due.tell(x, text), -10 - place);
        due.is("P5 of " + text, x.fault(), fault);
    }

    private static void faultOne() {
        fault("A", 0, 1);
        fault("  -", 2, 1);
        fault("one dead,", 8, 1);
        fault("depth 123;", 6, 1);
        fault("depth 000;", 6, 1);
        fault("one\tdead;", 3, 1);
        fault("wish 1 1 {", 9, 1);
        fault("wish 1 1 `", 9, 1);
        fault("wish 1 1 /", 9, 1);
        fault("wish 1 1 :", 9, 1);
        fault("123", 0, 1);
        fault("one 123;", 4, 1);
        fault("one dead 123;", 9, 1);
        fault("wish 123 1;", 5, 1);
        fault("wish 1 123;", 7, 1);
        fault("wish 1 1 123;", 9, 1);
        fault("needs 123;", 6, 1);
        fault("needs 1 123;", 8, 1);
        fault("clash 123 1;", 6, 1);
        fault("clash 1 123;", 8, 1);
        fault("list 123;", 5, 1);
        fault("plan 123;", 5, 1);
        WishClerk x = new WishClerk();
        x.feed(0);
        due.is("P4 byte 0", x.text(), -10);
        due.is("P5 byte 0", x.fault(), 1);
    }

    private static void faultTwo() {
        fault("foo;", 0, 2);
        fault("zoo;", 0, 2);
        fault("ine dead;", 0, 2);
        fault("one dread;", 4, 2);
        fault("ones dead;", 0, 2);
        fault("on dead;", 0, 2);
        fault(";", 0, 2);
        fault("1;", 0, 2);
        fault("alive;", 0, 2);
        fault("one;", 3, 2);
        fault("one 1;", 4, 2);
        fault("one one;", 4, 2);
        fault("one aliv;", 4, 2);
        fault("one dead dead;", 9, 2);
        fault("one dead 1;", 9, 2);
        fault("one", 3, 2);
        fault("one  ", 5, 2);
        fault("one dead", 8, 2);
        fault("one dead  ", 10, 2);
        fault("wish;", 4, 2);
        fault("wish 1;", 6, 2);
        fault("wish 1 2", 8, 2);
        fault("wish 1 2 one", 9, 2);
        fault("needs;", 5, 2);
        fault("needs 1 wish", 8, 2);
        fault("needs 1 ", 8, 2);
        fault("clash;", 5, 2);
        fault("clash 1;", 7, 2);
        fault("clash 1 2 3;", 10, 2);
        fault("list;", 4, 2);
        fault("list 1 2;", 7, 2);
        fault("depth;", 5, 2);
        fault("depth 1 1;", 8, 2);
        fault("plan;", 4, 2);
        fault("plan 1 1;", 7, 2);
    }

    private static void faultThree() {
        fault("wish 10 1;", 5, 3);
        fault("wish 9 10;", 7, 3);
        fault("wish 9 9 8;", 9, 3);
        fault("needs 8;", 6, 3);
        fault("needs 7 8;", 8, 3);
        fault("clash 8 1;", 6, 3);
        fault("clash 1 8;", 8, 3);
        fault("list 8;", 5, 3);
        fault("depth 9;", 6, 3);
        fault("plan 8;", 5, 3);
        fault("plan 99;", 5, 3);
    }

    private static void faultFour() {
        fault("depth 1;depth 1;", 8, 4);
        fault("depth 0;depth", 8, 4);
        fault("wish 1 1 2 3 2;", 13, 4);
        fault("wish 1 1 0 1 2 3 4 5 6 7 0;", 25, 4);
        fault("needs 1 1;", 8, 4);
        fault("needs 1 2 2;", 10, 4);
        fault("needs 1 2;needs 1 3 2;", 20, 4);
        fault("clash 2 2;", 8, 4);
        fault("clash 2 3;clash 2 3;", 18, 4);
        fault("clash 2 3;clash 3 2;", 18, 4);
        fault("list 4;list 4;", 12, 4);
        WishClerk x = new WishClerk();
        due.is("P4 needs and clash", Due.tell(x, "wish 0 0;wish 0 0;needs 0 1;needs 1 0;clash 0 1;"), 5);
        due.is("P4 one in two lines", Due.tell(x, "one dead;wish 0 0 0;wish 0 0 0;"), 3);
        due.is("P4 plan twice", Due.tell(x, "wish 0 0;plan 0;plan 0;"), 3);
    }

    private static void faultFive() {
        String eightOnes = "one dead;one dead;one dead;one dead;one dead;one dead;one dead;one dead;";
        WishClerk x = new WishClerk();
        due.is("P4 eight ones", Due.tell(x, eightOnes), 8);
        fault(eightOnes + "one", 72, 5);
        String eightWishes = "wish 1 1;wish 1 1;wish 1 1;wish 1 1;wish 1 1;wish 1 1;wish 1 1;wish 1 1;";
        due.is("P4 eight wishes", Due.tell(x, eightWishes), 8);
        fault(eightWishes + " wish 1 1;", 73, 5);
        String sixPlans = "plan 0;plan 0;plan 0;plan 0;plan 0;plan 0;";
        due.is("P4 six plans", Due.tell(x, "wish 1 1;" + sixPlans), 7);
        fault(sixPlans + "plan", 42, 5);
    }

    private static void faultSix() {
        fault("wish 1 1 0;", 11, 6);
        fault("one dead;wish 1 1 0 1;", 22, 6);
        fault("needs 0;", 8, 6);
        fault("wish 1 1;needs 0 1;", 19, 6);
        fault("wish 1 1;clash 0 1;", 19, 6);
        fault("wish 1 1;clash 1 0;", 19, 6);
        fault("list 0;  ", 9, 6);
        String one = "one dead;wish 1 1 0;";
        fault("wish 1 1 1;" + one, 31, 6);
        for (String line : new String[] {"needs 0;", "clash 0 1;", "list 0;", "plan 0;"}) {
            fault("plan 2;wish 1 1;wish 1 1;" + line, 25 + line.length(), 6);
        }
        fault("wish 1 1;plan 1;", 16, 6);
    }

    private static void orderOfFaults() {
        fault("depth 9A", 6, 3);
        fault("wish 1 1 2 2A", 11, 4);
        fault("foo A", 0, 2);
        fault("list 0;list 0 A", 12, 4);
        fault("needs 9 1;foo", 6, 3);
        fault("list 0;foo", 7, 2);
        fault("depth 1 A", 8, 1);
    }

    private static void rule() {
        WishClerk x = new WishClerk();
        due.is("P6 below", x.rule(-1), -1);
        due.is("P6 above", x.rule(8), -1);
    }

    private static void wish() {
        WishClerk x = Due.told("one dead;one dead;one dead;wish 1 2 0;wish 3 4 1;wish 5 6 2;wish 7 8 0 2;"
                + "needs 0 1;needs 1 2;clash 3 1;");
        int[][] want = {{1, 2, 1, 2, 0, 7, 7}, {3, 4, 2, 4, 8, 6, 6}, {5, 6, 4, 0, 0, 4, 4}, {7, 8, 5, 0, 2, 8, 5}};
        for (int w = 0; w < want.length; w++) {
            for (int what = 0; what <= 6; what++) {
                due.is("P7 wish " + w + " " + what, x.wish(w, what), want[w][what]);
            }
        }
        due.is("P7 no wish", x.wish(4, 0), -1);
        due.is("P7 below", x.wish(-1, 0), -1);
        due.is("P7 what below", x.wish(0, -1), -1);
        due.is("P7 what above", x.wish(0, 7), -1);
        x.ask(0);
        due.is("P7 what holds follows too", x.wish(0, 5), 7);
    }

    private static void plan() {
        WishClerk x = Due.told("wish 0 0;wish 0 0;plan 1;plan 0;plan 1;");
        due.is("P8 first", x.plan(0), 1);
        due.is("P8 second", x.plan(1), 0);
        due.is("P8 third", x.plan(2), 1);
        due.is("P8 behind", x.plan(3), -1);
        due.is("P8 below", x.plan(-1), -1);
    }
}
