/** Promises 9 to 17: what is changed. */
public final class ChangeTest {
    private static final Due due = new Due();

    public static void main(String[] args) {
        people();
        listAndDepth();
        wishes();
        thePlan();
        due.end("ChangeTest");
    }

    private static void people() {
        WishClerk x = Due.told("one alive;one barred;");
        due.is("P9 did", x.live(0, false), 1);
        due.is("P9 did not", x.live(0, false), 0);
        due.is("P9 barred one", x.live(1, true), 0);
        due.is("P9 lives", x.rule(3), 2);
        due.is("P9 barred still", x.rule(4), 2);
        due.is("P9 no one", x.live(2, true), -1);
        due.is("P9 below", x.live(-1, true), -1);
        due.is("P10 was", x.bar(1, false), 1);
        due.is("P10 was not", x.bar(0, true), 0);
        due.is("P10 barred", x.rule(4), 1);
        due.is("P10 lives on", x.rule(3), 2);
        due.is("P10 no one", x.bar(2, true), -1);
        due.is("P10 below", x.bar(-1, false), -1);
        due.is("P10 unchanged", x.rule(4), 1);
    }

    private static void listAndDepth() {
        WishClerk x = Due.told("wish 0 0;wish 0 0;list 1;");
        due.is("P11 was", x.list(1, true), 1);
        due.is("P11 was not", x.list(0, true), 0);
        due.is("P11 list", x.rule(6), 3);
        due.is("P11 off", x.list(1, false), 1);
        due.is("P11 list then", x.rule(6), 1);
        due.is("P11 no wish", x.list(2, true), -1);
        due.is("P11 below", x.list(-1, true), -1);
        due.is("P12 was", x.depth(8), 0);
        due.is("P12 above", x.depth(9), -1);
        due.is("P12 below", x.depth(-1), -1);
        due.is("P12 was then", x.depth(0), 8);
        due.is("P12 is", x.rule(2), 0);
    }

    private static void wishes() {
        WishClerk x = Due.told("one dead;one dead;wish 0 0 1;wish 0 0;wish 0 0;");
        due.is("P13 did", x.asks(0, 1, true), 1);
        due.is("P13 did not", x.asks(0, 0, true), 0);
        due.is("P13 ones", x.wish(0, 2), 3);
        due.is("P13 all ones", x.wish(0, 6), 3);
        due.is("P13 no more", x.asks(0, 1, false), 1);
        due.is("P13 ones then", x.wish(0, 6), 1);
        due.is("P13 no wish", x.asks(3, 0, true), -1);
        due.is("P13 no one", x.asks(0, 2, true), -1);
        due.is("P13 below", x.asks(-1, 0, true), -1);
        due.is("P13 one below", x.asks(0, -1, true), -1);
        due.is("P14 did not", x.needs(1, 0, true), 0);
        due.is("P14 did", x.needs(1, 0, true), 1);
        due.is("P14 needs", x.wish(1, 3), 1);
        due.is("P14 one way", x.wish(0, 3), 0);
        due.is("P14 follow", x.needs(2, 1, true), 0);
        due.is("P14 followers", x.wish(2, 5), 7);
        due.is("P14 their ones", x.wish(2, 6), 1);
        due.is("P14 round", x.needs(0, 2, true), 0);
        due.is("P14 round follows", x.wish(1, 5), 7);
        due.is("P14 no more", x.needs(1, 0, false), 1);
        due.is("P14 followers then", x.wish(2, 5), 6);
        due.is("P14 itself", x.needs(1, 1, true), -1);
        due.is("P14 itself not", x.needs(1, 1, false), -1);
        due.is("P14 no wish", x.needs(3, 0, true), -1);
        due.is("P14 no other", x.needs(0, 3, true), -1);
        due.is("P14 below", x.needs(0, -1, true), -1);
        due.is("P15 did not", x.clash(0, 2, true), 0);
        due.is("P15 both ways", x.clash(2, 0, true), 1);
        due.is("P15 of one", x.wish(0, 4), 4);
        due.is("P15 of the other", x.wish(2, 4), 1);
        due.is("P15 no more", x.clash(2, 0, false), 1);
        due.is("P15 of one then", x.wish(0, 4), 0);
        due.is("P15 of the other then", x.wish(2, 4), 0);
        due.is("P15 alike", x.clash(1, 1, true), -1);
        due.is("P15 no wish", x.clash(3, 1, true), -1);
        due.is("P15 no other", x.clash(1, 3, true), -1);
        due.is("P15 below", x.clash(-1, 1, true), -1);
    }

    private static void thePlan() {
        WishClerk x = Due.told("wish 0 0;wish 0 0;plan 1;");
        due.is("P16 no wish", x.plans(2), -1);
        due.is("P16 below", x.plans(-1), -1);
        for (int n = 2; n <= 6; n++) {
            due.is("P16 more", x.plans(0), n);
        }
        due.is("P16 full", x.plans(0), -3);
        due.is("P16 bad ahead of full", x.plans(2), -1);
        due.is("P16 last", x.plan(5), 0);
        due.is("P17 above", x.cut(7), -1);
        due.is("P17 below", x.cut(-1), -1);
        due.is("P17 all", x.cut(6), 6);
        due.is("P17 some", x.cut(1), 6);
        due.is("P17 above then", x.cut(2), -1);
        due.is("P17 first stays", x.plan(0), 1);
        due.is("P17 second is gone", x.plan(1), -1);
        due.is("P17 none", x.cut(0), 1);
        due.is("P17 of none", x.rule(7), 0);
    }
}
