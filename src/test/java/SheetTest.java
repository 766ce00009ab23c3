/** Promises 37 to 43: images, sheets. */
public final class SheetTest {
    private static final Due due = new Due();

    public static void main(String[] args) {
        images();
        imagesStand();
        sheets();
        lowestBits();
        read();
        readFaults();
        torn();
        count();
        due.end("SheetTest");
    }

    private static void images() {
        WishClerk x = Due.told("one alive;one dead;one barred;wish 1 2 0;wish 3 4 1;needs 0 1;clash 0 1;list 0;depth 3;plan 1;plan 0;");
        x.list(1, true);
        x.see(1, true);
        x.see(2, false);
        due.is("P38 none", x.back(0), -2);
        due.is("P37 first", x.keep(0), 0);
        due.is("P37 again", x.keep(0), 1);
        due.is("P37 bad", x.keep(2), -1);
        due.is("P37 below", x.keep(-1), -1);
        due.is("P38 bad", x.back(2), -1);
        due.is("P38 below", x.back(-1), -1);
        due.is("P38 none there", x.back(1), -2);
        x.live(0, false);
        x.bar(0, true);
        x.list(0, false);
        x.list(1, false);
        x.depth(0);
        x.asks(1, 2, true);
        x.needs(0, 1, false);
        x.needs(1, 0, true);
        x.clash(0, 1, false);
        x.cut(1);
        x.plans(1);
        x.plans(1);
        x.forget(0);
        x.see(0, false);
        x.see(0, true);
        x.see(0, true);
        x.live(2, true);
        x.ask(1);
        due.is("P37 other", x.keep(1), 0);
        due.is("P38 back", x.back(0), 0);
        int[] want = {3, 2, 3, 1, 4, 0, 3, 2};
        for (int what = 0; what < want.length; what++) {
            due.is("P38 rule " + what, x.rule(what), want[what]);
        }
        int[][] wishes = {{1, 2, 1, 2, 2, 3, 3}, {3, 4, 2, 0, 1, 2, 2}};
        for (int w = 0; w < 2; w++) {
            for (int what = 0; what <= 6; what++) {
                due.is("P38 wish " + w + " " + what, x.wish(w, what), wishes[w][what]);
            }
        }
        due.is("P38 plan", x.plan(0), 1);
        due.is("P38 plan's second", x.plan(1), 0);
        due.is("P38 seen", x.count(2), 2);
        due.is("P38 fits as seen", x.fits(0), 3);
        due.is("P38 other back", x.back(1), 3);
        due.is("P38 its plan", x.rule(7), 3);
        due.is("P38 its followers", x.wish(1, 5), 3);
        due.is("P38 its ones", x.wish(1, 6), 7);
    }

    private static void imagesStand() {
        WishClerk x = Due.told("one dead;wish 0 0 0;");
        x.keep(0);
        x.ask(0);
        due.is("P38 back", x.back(0), 0);
        due.is("P38 dead again", x.rule(3), 0);
        due.is("P38 asked anew", x.ask(0), 1);
        due.is("P38 the image stays as it was", x.back(0), 0);
        x.sheet(0, 0, 7);
        x.feed('x');
        x.back(0);
        due.is("P38 no sheets in it", x.count(5), 7);
        due.is("P38 no tape in it", x.count(4), 1);
    }

    private static void sheets() {
        WishClerk x = new WishClerk();
        due.is("P39 k", x.sheet(4, 0, 1), -1);
        due.is("P39 k below", x.sheet(-1, 0, 1), -1);
        due.is("P39 lane", x.sheet(0, 3, 1), -1);
        due.is("P39 lane below", x.sheet(0, -1, 1), -1);
        due.is("P39 n", x.sheet(0, 0, 41), -1);
        due.is("P39 size", x.sheet(0, 0, -1), -14);
        due.is("P39 bad ahead of size", x.sheet(0, 3, -1), -1);
        due.is("P39 still nothing", x.count(5), -4);
        due.is("P39 least", x.sheet(0, 0, 0), 1);
        due.is("P39 no cells", x.count(5), 0);
        due.is("P40 no cell", x.lay(0, 0, 1), -12);
        due.is("P39 most", x.sheet(3, 2, 40), 1);
        due.is("P40 last", x.lay(3, 39, 1), 1);
        due.is("P40 behind", x.lay(3, 40, 1), -12);
        due.is("P40 below", x.lay(3, -1, 1), -12);
        due.is("P40 nothing", x.lay(1, 0, 1), -11);
        due.is("P40 nothing ahead of index", x.lay(1, -1, 1), -11);
        due.is("P40 k", x.lay(4, 0, 1), -1);
        due.is("P40 k below", x.lay(-1, 0, 1), -1);
        due.is("P39 size leaves what was", x.sheet(3, 2, Integer.MIN_VALUE), -14);
        due.is("P40 still there", x.lay(3, 39, 1), 1);
    }

    private static void lowestBits() {
        WishClerk x = Due.told("wish 0 0;wish 0 0;");
        x.sheet(0, 0, 2);
        x.lay(0, 0, 257);
        due.is("P40 byte", x.read(0, 0, 0, 1), 1);
        due.is("P40 is 1", x.rule(5), 2);
        x.take(1);
        x.sheet(1, 1, 2);
        x.lay(1, 1, 0x10001);
        due.is("P40 short", x.read(1, 1, 1, 1), 1);
        due.is("P40 is 1 too", x.rule(5), 2);
        x.take(1);
        x.lay(1, 1, 257);
        due.is("P40 short 257", x.read(1, 1, 1, 1), -20);
        x.sheet(2, 2, 2);
        x.lay(2, 0, 0x10001);
        due.is("P40 int", x.read(2, 2, 0, 1), -20);
        x.lay(0, 0, 255);
        due.is("P40 byte -1", x.read(0, 0, 0, 1), -20);
        x.lay(0, 1, 1);
        x.sheet(0, 0, 2);
        due.is("P39 cells are 0 again", x.read(0, 0, 1, 1), 1);
        due.is("P39 wish 0 came", x.rule(5), 1);
        x.take(0);
        x.lay(0, 0, 1);
        x.sheet(0, 1, 1);
        due.is("P39 the first cell too", x.read(0, 1, 0, 1), 1);
        due.is("P39 wish 0 came again", x.rule(5), 1);
    }

    private static void read() {
        WishClerk x = Due.told("one dead;one barred;wish 0 0 0;wish 0 0 1;wish 0 0;wish 0 0;list 3;needs 2 0;");
        x.sheet(1, 2, 4);
        x.lay(1, 0, 2);
        x.lay(1, 1, 1);
        due.is("P41 k", x.read(4, 2, 0, 1), -1);
        due.is("P41 k below", x.read(-1, 2, 0, 1), -1);
        due.is("P41 lane", x.read(1, 3, 0, 1), -1);
        due.is("P41 lane below", x.read(1, -1, 0, 1), -1);
        due.is("P41 n", x.read(1, 2, 0, 21), -1);
        due.is("P41 n below", x.read(1, 2, 0, -1), -1);
        due.is("P41 none", x.read(1, 2, 0, 0), 0);
        due.is("P41 refused", x.read(1, 2, 0, 2), -21);
        due.is("P41 then none came", x.rule(5), 0);
        due.is("P41 nobody", x.rule(3), 0);
        x.lay(1, 1, 0);
        due.is("P41 follows already", x.read(1, 2, 0, 2), -21);
        due.is("P41 none of it", x.rule(5), 0);
        x.lay(1, 1, 2);
        x.lay(1, 0, 0);
        due.is("P41 both", x.read(1, 2, 0, 2), 2);
        due.is("P41 hold", x.rule(5), 5);
        due.is("P41 lives", x.rule(3), 1);
        x.take(0);
        x.lay(1, 2, 4);
        due.is("P41 no wish", x.read(1, 2, 0, 3), -22);
        due.is("P41 nothing", x.rule(5), 0);
        due.is("P41 who lived, lives", x.rule(3), 1);
        x.lay(1, 2, 3);
        due.is("P41 listed", x.read(1, 2, 2, 1), -20);
        due.is("P41 most", x.read(0, 0, 0, 20), 0);
    }

    private static void readFaults() {
        WishClerk x = Due.told("one dead;wish 0 0 0;wish 0 0;");
        due.is("P41 nothing", x.read(0, 0, 0, 1), 0);
        due.is("P42 null", x.torn(), 1);
        x.sheet(0, 0, 2);
        x.lay(0, 1, 1);
        due.is("P41 too many", x.read(0, 0, 0, 3), 2);
        due.is("P42 index", x.torn(), 2);
        due.is("P41 those ahead came", x.rule(5), 3);
        x.take(0);
        x.take(1);
        due.is("P41 another lane", x.read(0, 1, 0, 2), 0);
        due.is("P42 cast", x.torn(), 3);
        due.is("P41 below", x.read(0, 0, -1, 2), 0);
        due.is("P42 index below", x.torn(), 2);
        due.is("P41 another lane, behind all", x.read(0, 2, 9, 2), 0);
        due.is("P42 cast ahead of index", x.torn(), 3);
        due.is("P41 far", x.read(0, 0, Integer.MAX_VALUE, 2), 0);
        due.is("P42 far", x.torn(), 2);
        due.is("P41 far below", x.read(0, 0, Integer.MIN_VALUE, 2), 0);
        due.is("P41 whole", x.read(0, 0, 0, 2), 2);
        due.is("P42 none", x.torn(), 0);
    }

    private static void torn() {
        WishClerk x = Due.told("wish 0 0;");
        due.is("P42 at first", x.torn(), 0);
        x.sheet(0, 0, 1);
        x.read(0, 0, 5, 1);
        due.is("P42 index", x.torn(), 2);
        x.read(4, 0, 0, 1);
        due.is("P42 not of a bad one", x.torn(), 2);
        x.lay(0, 0, 9);
        x.read(0, 0, 0, 1);
        due.is("P42 not of one not granted", x.torn(), 2);
        x.lay(0, -1, 9);
        x.sheet(1, 0, -1);
        due.is("P42 not of other calls", x.torn(), 2);
        due.is("P41 reads none", x.read(0, 0, 0, 0), 0);
        due.is("P42 came to its end", x.torn(), 0);
    }

    private static void count() {
        WishClerk x = Due.told("one alive;one alive;one barred;wish 0 0;wish 0 0;wish 0 0;list 0;");
        x.ask(1);
        x.ask(2);
        x.see(0, true);
        x.see(0, true);
        x.see(0, true);
        x.keep(1);
        x.feed(' ');
        x.feed(' ');
        x.feed(' ');
        x.feed(' ');
        x.sheet(0, 1, 5);
        x.list(2, true);
        x.list(1, true);
        int[] want = {2, 2, 3, 1, 4, 5, 3, 1};
        for (int what = 0; what < want.length; what++) {
            due.is("P43 count " + what, x.count(what), want[what]);
        }
        x.keep(0);
        due.is("P43 two images", x.count(3), 2);
        due.is("P43 above", x.count(8), -1);
        due.is("P43 below", x.count(-1), -1);
    }
}
