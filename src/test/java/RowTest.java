/** Promises 24 to 31: rows, sets, dates. */
public final class RowTest {
    private static final Due due = new Due();

    public static void main(String[] args) {
        row();
        rowAroundClerk();
        longRow();
        cheap();
        deep();
        fewest();
        all();
        set();
        rid();
        date();
        due.end("RowTest");
    }

    private static void row() {
        WishClerk x = Due.told("one dead;one alive;one dead;wish 0 0;wish 0 0 0;wish 0 0 0;");
        due.is("P24 lives", x.row(1, 0), 0);
        due.is("P24 lives, no wish", x.row(1, 10), -4);
        due.is("P24 one", x.row(0, 0), 1);
        due.is("P24 first by numbers", x.row(0, 10), 1);
        due.is("P24 not so many", x.row(0, 11), -4);
        due.is("P24 none", x.row(2, 0), -4);
        due.is("P24 none of it", x.row(2, 10), -4);
        for (int what : new int[] {-1, 1, 9, 18}) {
            due.is("P24 what " + what, x.row(0, what), -1);
        }
        due.is("P24 no one", x.row(3, 0), -1);
        due.is("P24 below", x.row(-1, 10), -1);
        x.ask(1);
        x.live(0, false);
        due.is("P24 not what holds", x.row(0, 10), 2);
        due.is("P24 nothing is changed", x.rule(5), 2);
    }

    /** A barred one is brought by wishes that the clerk does not see through, then others may ask for him. */
    private static void rowAroundClerk() {
        WishClerk x = Due.told("one barred;one dead;wish 0 9 0 1;wish 0 1 0;wish 0 2;wish 0 3;needs 2 1;needs 3 1;");
        due.is("P24 two", x.row(1, 0), 2);
        due.is("P24 two, 0", x.row(1, 10), 2);
        due.is("P24 two, 1", x.row(1, 11), 0);
        due.is("P24 two, 2", x.row(1, 12), -4);
        due.is("P25 of both", x.cheap(1), 11);
        due.is("P26 depth 1", x.deep(1), 1);
        due.is("P27 one wish", x.fewest(1, 0), 1);
        due.is("P27 that wish", x.fewest(1, 1), 1);
        due.is("P27 two ways", x.fewest(0, 0), 2);
        due.is("P27 both", x.fewest(0, 1), 12);
        x.clash(2, 0, true);
        due.is("P24 another way", x.row(1, 10), 3);
        x.clash(3, 0, true);
        due.is("P24 no way", x.row(1, 0), -4);
        due.is("P25 no way", x.cheap(1), -4);
        due.is("P28 he alone", x.all(), 1);
    }

    /** Each wish needs a barred one whom only the one before, not looking so deep, brings. */
    private static void longRow() {
        WishClerk x = Due.told("one barred;one barred;one barred;one dead;"
                + "wish 0 1 2 3;wish 0 1 1;wish 0 1 0;wish 0 1;wish 0 1 2;wish 0 1 1;wish 0 1 0;"
                + "needs 1 4;needs 2 5;needs 3 6;");
        due.is("P24 four", x.row(3, 0), 4);
        int[] want = {3, 2, 1, 0, -4, -4, -4, -4};
        for (int i = 0; i < want.length; i++) {
            due.is("P24 four, " + i, x.row(3, 10 + i), want[i]);
        }
        due.is("P25 four", x.cheap(3), 4);
        due.is("P26 one deep", x.deep(3), 1);
        due.is("P28 all", x.all(), 15);
    }

    private static void cheap() {
        WishClerk x = Due.told("one dead;one alive;one dead;wish 0 9 0;wish 0 5 0;wish 0 0 0;list 2;");
        due.is("P25 cheapest", x.cheap(0), 5);
        x.list(2, false);
        due.is("P25 for nothing", x.cheap(0), 0);
        due.is("P25 lives", x.cheap(1), 0);
        due.is("P25 none", x.cheap(2), -4);
        due.is("P25 no one", x.cheap(3), -1);
        due.is("P25 below", x.cheap(-1), -1);
        WishClerk y = Due.told("one barred;one dead;wish 0 9;wish 0 1;wish 0 2 0;wish 0 3 0 1;wish 0 1 0;needs 0 3;needs 1 4;");
        due.is("P24 short", y.row(1, 0), 1);
        due.is("P25 longer and cheaper", y.cheap(1), 4);
    }

    private static void deep() {
        WishClerk x = Due.told("one barred;one alive;one dead;one dead;wish 0 0;wish 0 0;wish 0 0 0;wish 0 0 2;needs 0 1;needs 1 2;");
        due.is("P26 two", x.deep(0), 2);
        due.is("P26 lives", x.deep(1), -2);
        due.is("P26 by none", x.deep(2), -4);
        due.is("P26 never", x.deep(3), 0);
        due.is("P26 no one", x.deep(4), -1);
        due.is("P26 below", x.deep(-1), -1);
        x.depth(5);
        due.is("P26 whatever the depth is", x.deep(0), 2);
        due.is("P26 depth stays", x.rule(2), 5);
        x.list(0, true);
        due.is("P26 by the list", x.deep(0), 1);
    }

    private static void fewest() {
        WishClerk x = Due.told("one dead;one alive;one dead;wish 0 0 0;wish 0 0;wish 0 0;wish 0 0 0;wish 0 0;needs 4 3;");
        due.is("P27 three", x.fewest(0, 0), 3);
        due.is("P27 set", x.fewest(0, 1), 25);
        x.list(3, true);
        due.is("P27 more on the list", x.fewest(0, 0), 2);
        due.is("P27 set of more", x.fewest(0, 1), 17);
        due.is("P27 list stays", x.rule(6), 8);
        due.is("P27 none needed", x.fewest(2, 0), 0);
        due.is("P27 empty set", x.fewest(2, 1), 0);
        due.is("P27 lives", x.fewest(1, 0), -2);
        due.is("P27 bad ahead", x.fewest(1, 2), -1);
        due.is("P27 what below", x.fewest(0, -1), -1);
        due.is("P27 no one", x.fewest(3, 0), -1);
        due.is("P27 below", x.fewest(-1, 0), -1);
        WishClerk y = Due.told("one barred;one dead;wish 0 0 0 1;wish 0 0 0;wish 0 0;needs 2 1;");
        due.is("P27 either does", y.fewest(1, 0), 1);
        due.is("P27 the least", y.fewest(1, 1), 1);
        WishClerk z = Due.told("one dead;wish 0 0 0;wish 0 0 0;wish 0 0 0;wish 0 0 0;wish 0 0 0;wish 0 0 0;wish 0 0 0;wish 0 0 0;");
        due.is("P27 all eight", z.fewest(0, 1), 255);
    }

    private static void all() {
        WishClerk x = new WishClerk();
        due.is("P28 nobody", x.all(), 0);
        x = Due.told("one alive;one dead;one barred;one dead;one dead;wish 0 0 1;wish 0 0 2;wish 0 0 3;wish 0 0 4;list 3;clash 0 2;");
        due.is("P28 either of a clash", x.all(), 11);
        x.depth(8);
        x.ask(0);
        due.is("P28 one of a clash", x.all(), 3);
        x.bar(2, false);
        x.list(3, false);
        due.is("P28 others", x.all(), 23);
    }

    private static void set() {
        WishClerk x = Due.told("wish 0 0;wish 0 0;wish 0 0;wish 0 0;wish 0 0;");
        due.is("P29 no set", x.set(0), -4);
        due.is("P29 no set of bits", x.set(1), -4);
        due.is("P29 bad", x.set(2), -1);
        due.is("P29 below", x.set(-1), -1);
        x.clash(3, 4, true);
        due.is("P29 two", x.set(0), 2);
        due.is("P29 the two", x.set(1), 24);
        x.needs(1, 3, true);
        due.is("P29 less by what follows", x.set(1), 18);
        x.needs(2, 0, true);
        x.needs(0, 4, true);
        due.is("P29 the least", x.set(1), 3);
        x.needs(2, 3, true);
        due.is("P29 one", x.set(0), 1);
        due.is("P29 the one", x.set(1), 4);
        x.clash(3, 4, false);
        due.is("P29 none again", x.set(0), -4);
    }

    private static void rid() {
        WishClerk x = Due.told("wish 0 0;wish 0 0;wish 0 0;wish 0 0;wish 0 0;needs 2 3;needs 4 3;");
        due.is("P30 nothing holds", x.rid(0), 0);
        for (int w = 0; w < 5; w++) {
            x.ask(w);
        }
        due.is("P30 no clash", x.rid(1), 0);
        due.is("P30 bad", x.rid(2), -1);
        due.is("P30 below", x.rid(-1), -1);
        x.clash(0, 2, true);
        due.is("P30 one", x.rid(0), 1);
        due.is("P30 the least", x.rid(1), 1);
        x.clash(1, 4, true);
        due.is("P30 with what rests on it", x.rid(0), 1);
        due.is("P30 that", x.rid(1), 8);
        x.needs(4, 3, false);
        due.is("P30 two", x.rid(0), 2);
        due.is("P30 the two", x.rid(1), 3);
        due.is("P30 nothing is taken", x.rule(5), 31);
    }

    private static void date() {
        WishClerk x = Due.told("wish 1 0;wish 2 0;wish 9 0;wish 4 0;wish 0 0;needs 0 1 2;needs 1 3;needs 3 4;");
        due.is("P31 most of those needed", x.date(0), 10);
        due.is("P31 chain", x.date(1), 6);
        due.is("P31 its own", x.date(2), 9);
        due.is("P31 no years", x.date(4), 0);
        due.is("P31 no wish", x.date(5), -1);
        due.is("P31 below", x.date(-1), -1);
        x.needs(4, 3, true);
        due.is("P31 round", x.date(3), -4);
        due.is("P31 round behind", x.date(0), -4);
        due.is("P31 aside", x.date(2), 9);
        x.needs(4, 3, false);
        x.needs(1, 3, false);
        x.needs(1, 0, true);
        due.is("P31 round by 0", x.date(0), -4);
        due.is("P31 round by 0 of 1", x.date(1), -4);
        due.is("P31 beside the round", x.date(3), 4);
        x.needs(1, 0, false);
        x.needs(1, 3, true);
        x.needs(2, 1, true);
        due.is("P31 longer", x.date(0), 16);
        x.ask(1);
        due.is("P31 though it holds", x.date(0), 16);
        WishClerk y = Due.told("wish 9 0;wish 9 0;wish 9 0;wish 9 0;wish 9 0;wish 9 0;wish 9 0;wish 9 0;"
                + "needs 7 6;needs 6 5;needs 5 4;needs 4 3;needs 3 2;needs 2 1;needs 1 0;");
        due.is("P31 the longest", y.date(7), 72);
        WishClerk z = Due.told("wish 9 0;wish 9 0;wish 9 0;wish 9 0;wish 9 0;wish 9 0;wish 9 0;wish 9 0;"
                + "needs 0 1;needs 1 2;needs 2 3;needs 3 4;needs 4 5;needs 5 6;needs 6 7;");
        due.is("P31 the longest the other way", z.date(0), 72);
    }
}
