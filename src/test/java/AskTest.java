/** Promises 18 to 23: wishes asked. */
public final class AskTest {
    private static final Due due = new Due();

    public static void main(String[] args) {
        looks();
        refuses();
        ask();
        deeperThanHeLooks();
        take();
        clashes();
        broken();
        due.end("AskTest");
    }

    private static void looks() {
        WishClerk x = Due.told("wish 0 0;wish 0 0;wish 0 0;wish 0 0;needs 0 1;needs 1 2;needs 2 3;");
        int[] want = {1, 3, 7, 15, 15};
        for (int d = 0; d < want.length; d++) {
            x.depth(d);
            due.is("P18 depth " + d, x.looks(0), want[d]);
        }
        due.is("P18 no wish", x.looks(4), -1);
        due.is("P18 below", x.looks(-1), -1);
        x.depth(8);
        x.ask(2);
        due.is("P18 not what holds nor behind it", x.looks(0), 3);
        due.is("P18 it itself though it holds", x.looks(3), 8);
        x.take(3);
        due.is("P18 none holds", x.looks(2), 12);
        x.ask(3);
        due.is("P18 needed holds", x.looks(2), 4);
        x.needs(3, 1, true);
        due.is("P18 round from what holds", x.looks(3), 14);
    }

    private static void refuses() {
        WishClerk x = Due.told("one dead;one barred;wish 0 0 0;wish 0 0 1;wish 0 0;needs 0 1;clash 0 2;");
        due.is("P19 not", x.refuses(0), 0);
        due.is("P19 barred", x.refuses(1), 2);
        x.depth(1);
        due.is("P19 barred behind", x.refuses(0), 2);
        x.live(1, true);
        due.is("P19 barred and lives", x.refuses(0), 0);
        x.ask(2);
        due.is("P19 clash with what holds", x.refuses(0), 3);
        x.live(1, false);
        due.is("P19 barred ahead of clash", x.refuses(0), 2);
        x.list(0, true);
        due.is("P19 list first", x.refuses(0), 1);
        x.list(0, false);
        x.take(2);
        x.live(1, true);
        x.clash(0, 1, true);
        due.is("P19 two looked at clash", x.refuses(0), 3);
        x.depth(0);
        due.is("P19 not so deep", x.refuses(0), 0);
        x.list(1, true);
        x.depth(8);
        x.clash(0, 1, false);
        due.is("P19 needed on the list is nothing", x.refuses(0), 0);
        due.is("P19 no wish", x.refuses(3), -1);
        due.is("P19 below", x.refuses(-1), -1);
    }

    private static void ask() {
        WishClerk x = Due.told("one dead;one alive;one dead;one barred;wish 0 0 0 1;wish 0 0 2;wish 0 0 3;needs 0 1;");
        due.is("P20 refused", x.ask(2), -4);
        due.is("P20 nothing by it", x.rule(5), 0);
        due.is("P20 come", x.ask(0), 2);
        due.is("P20 hold", x.rule(5), 3);
        due.is("P20 live", x.rule(3), 7);
        due.is("P20 holds", x.ask(0), -2);
        due.is("P20 follows and holds", x.ask(1), -2);
        due.is("P20 no wish", x.ask(3), -1);
        due.is("P20 below", x.ask(-1), -1);
        x.list(0, true);
        due.is("P20 state ahead of none", x.ask(0), -2);
        x.list(0, false);
        x.take(0);
        x.live(2, false);
        due.is("P20 comes again by what holds", x.ask(0), 1);
    }

    private static void deeperThanHeLooks() {
        WishClerk x = Due.told("one barred;wish 0 0;wish 0 0 0;wish 0 0;needs 0 1;clash 1 2;");
        x.ask(2);
        due.is("P20 behind his depth", x.ask(0), 1);
        due.is("P20 a clash holds", x.rule(5), 7);
        due.is("P20 a barred one lives", x.rule(3), 1);
        due.is("P22 that clash", x.clashes(), 1);
    }

    private static void take() {
        WishClerk x = Due.told("one dead;wish 0 0 0;wish 0 0;wish 0 0;wish 0 0;needs 0 1;needs 1 2;");
        due.is("P21 does not hold", x.take(0), -2);
        x.ask(0);
        x.ask(3);
        due.is("P21 middle", x.take(1), 2);
        due.is("P21 rest", x.rule(5), 12);
        due.is("P21 lives on", x.rule(3), 1);
        due.is("P21 twice", x.take(1), -2);
        x.ask(0);
        due.is("P21 top", x.take(0), 1);
        x.ask(0);
        due.is("P21 bottom", x.take(2), 3);
        due.is("P21 no wish", x.take(4), -1);
        due.is("P21 below", x.take(-1), -1);
        x.ask(1);
        x.ask(0);
        x.take(1);
        x.needs(3, 1, true);
        x.needs(1, 2, true);
        due.is("P21 through what does not hold", x.take(2), 2);
        due.is("P21 nothing then", x.rule(5), 0);
    }

    private static void clashes() {
        WishClerk x = Due.told("wish 0 0;wish 0 0;wish 0 0;wish 0 0;");
        for (int w = 0; w < 3; w++) {
            x.ask(w);
        }
        due.is("P22 none", x.clashes(), 0);
        x.clash(0, 1, true);
        x.clash(2, 1, true);
        x.clash(3, 1, true);
        due.is("P22 pairs", x.clashes(), 2);
        x.clash(0, 2, true);
        due.is("P22 three", x.clashes(), 3);
    }

    private static void broken() {
        WishClerk x = Due.told("one dead;one dead;wish 0 0;wish 0 0 0;wish 0 0;wish 0 0 1;needs 0 1;needs 1 2;");
        due.is("P23 nothing holds", x.broken(), 0);
        x.ask(0);
        x.ask(3);
        due.is("P23 whole", x.broken(), 0);
        x.live(0, false);
        due.is("P23 a one", x.broken(), 3);
        x.live(1, false);
        due.is("P23 another", x.broken(), 11);
        x.ask(0);
        x.live(0, true);
        x.live(1, true);
        due.is("P23 whole again", x.broken(), 0);
        x.take(3);
        x.needs(2, 3, true);
        due.is("P23 a wish", x.broken(), 7);
    }
}
