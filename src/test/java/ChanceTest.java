/** Promises 32 to 36: seen, odds, by a seed. */
public final class ChanceTest {
    private static final Due due = new Due();

    public static void main(String[] args) {
        seen();
        fits();
        odds();
        oddsOfRefused();
        wild();
        due.end("ChanceTest");
    }

    private static void seen() {
        WishClerk x = Due.told("one dead;");
        due.is("P32 no one", x.see(1, true), -1);
        due.is("P32 below", x.see(-1, true), -1);
        for (int n = 1; n <= 8; n++) {
            due.is("P32 more", x.see(0, true), n);
        }
        due.is("P32 full", x.see(0, true), -3);
        due.is("P32 bad ahead of full", x.see(1, true), -1);
        due.is("P33 above", x.forget(9), -1);
        due.is("P33 below", x.forget(-1), -1);
        due.is("P33 all", x.forget(8), 8);
        due.is("P33 some", x.forget(3), 8);
        due.is("P33 above then", x.forget(4), -1);
        due.is("P33 more again", x.see(0, false), 4);
        due.is("P33 of them", x.forget(0), 4);
        due.is("P33 none", x.count(2), 0);
    }

    private static void fits() {
        WishClerk x = Due.told("one dead;one alive;one dead;wish 0 0 0;wish 0 0 2;wish 0 0;needs 2 1;list 0;");
        due.is("P34 all sets", x.fits(0), 8);
        due.is("P34 the empty one", x.fits(1), 0);
        due.is("P34 in all", x.fits(2), 0);
        due.is("P34 in none", x.fits(3), 0);
        x.see(2, true);
        due.is("P34 how many", x.fits(0), 6);
        due.is("P34 least", x.fits(1), 2);
        due.is("P34 neither in all", x.fits(2), 0);
        x.see(0, false);
        due.is("P34 fewer", x.fits(0), 3);
        due.is("P34 least of them", x.fits(1), 2);
        due.is("P34 in none of them", x.fits(3), 1);
        x.needs(2, 1, false);
        due.is("P34 in all of them", x.fits(2), 2);
        x.ask(1);
        due.is("P34 who lives now", x.fits(1), 0);
        x.see(1, false);
        due.is("P34 none", x.fits(0), 0);
        for (int what = 1; what <= 3; what++) {
            due.is("P34 none " + what, x.fits(what), -4);
        }
        due.is("P34 bad", x.fits(4), -1);
        due.is("P34 below", x.fits(-1), -1);
        x.forget(0);
        x.see(0, true);
        x.see(0, false);
        due.is("P34 both", x.fits(0), 0);
        x.forget(1);
        due.is("P34 the first alone", x.fits(0), 4);
        due.is("P34 by that wish", x.fits(2), 1);
        x.forget(0);
        x.see(0, false);
        x.live(2, false);
        x.see(2, false);
        due.is("P34 both not, but for what brings none", x.fits(0), 2);
        due.is("P34 in none of these", x.fits(3), 3);
        x.live(0, true);
        x.forget(0);
        x.see(0, true);
        x.see(2, true);
        due.is("P34 both, one living already", x.fits(0), 4);
        x.live(0, false);
        due.is("P34 both by wishes", x.fits(0), 2);
        due.is("P34 which are in all", x.fits(2), 3);
        x.asks(1, 2, false);
        due.is("P34 not the second", x.fits(0), 0);
        WishClerk z = Due.told("one dead;wish 0 0 0;wish 0 0;wish 0 0;needs 2 0;");
        z.see(0, false);
        due.is("P34 the second or nothing", z.fits(0), 2);
        due.is("P34 the first and the third in none", z.fits(3), 5);
        z = Due.told("one dead;wish 0 0;wish 0 0 0;");
        z.see(0, false);
        due.is("P34 the second in none", z.fits(3), 2);
        WishClerk y = new WishClerk();
        due.is("P34 nothing at all", y.fits(0), 1);
        due.is("P34 nothing in none", y.fits(3), 0);
    }

    private static void odds() {
        WishClerk x = Due.told("one barred;one dead;wish 0 0 0;wish 0 0 1;list 1;");
        due.is("P35 no plan", x.odds(5, 0, 0), 0);
        due.is("P35 0 by 1", x.odds(5, 0, 1), 1);
        x.plans(0);
        due.is("P35 asleep", x.odds(4, 0, 0), 2);
        due.is("P35 by five", x.odds(4, 0, 1), 5);
        x.plans(0);
        due.is("P35 twice", x.odds(4, 0, 0), 16);
        due.is("P35 by 25", x.odds(4, 0, 1), 25);
        due.is("P35 never", x.odds(0, 0, 0), 0);
        due.is("P35 never by", x.odds(0, 0, 1), 1);
        due.is("P35 ever", x.odds(10, 0, 0), 1);
        due.is("P35 ever by", x.odds(10, 0, 1), 1);
        due.is("P35 v", x.odds(11, 0, 0), -1);
        due.is("P35 v below", x.odds(-1, 0, 0), -1);
        due.is("P35 no one", x.odds(5, 2, 0), -1);
        due.is("P35 one below", x.odds(5, -1, 0), -1);
        due.is("P35 what", x.odds(5, 0, 2), -1);
        due.is("P35 what below", x.odds(5, 0, -1), -1);
        x.cut(0);
        x.live(0, true);
        due.is("P35 lives", x.odds(3, 0, 0), 1);
        for (int i = 0; i < 6; i++) {
            x.plans(1);
        }
        due.is("P35 six", x.odds(1, 1, 0), 1000000 - 531441);
        due.is("P35 by a million", x.odds(1, 1, 1), 1000000);
        due.is("P35 nothing is changed", x.rule(5), 0);
        due.is("P35 nobody came", x.rule(3), 1);
    }

    /** The first wish, granted only asleep, shuts out the second, or lets it in. */
    private static void oddsOfRefused() {
        WishClerk x = Due.told("one dead;one dead;wish 0 0 0;wish 0 0 1;clash 0 1;list 0;plan 0;plan 1;");
        due.is("P35 7 in 10 and 3 in 10 of 3 in 10", x.odds(3, 1, 0), 79);
        due.is("P35 by 100", x.odds(3, 1, 1), 100);
        WishClerk y = Due.told("one barred;one dead;wish 0 0 0;wish 0 0 0 1;plan 0;plan 1;");
        due.is("P35 2 in 10, or 8 in 10 of 2 in 10", y.odds(2, 1, 0), 9);
        due.is("P35 by 25", y.odds(2, 1, 1), 25);
        WishClerk z = Due.told("one dead;one dead;one alive;wish 0 0 0;wish 0 0 1;wish 0 0;clash 0 2;plan 0;plan 1;plan 2;");
        due.is("P35 who came first, lives on", z.odds(0, 0, 0), 1);
        due.is("P35 who lived, lives on", z.odds(0, 2, 0), 1);
        z.asks(2, 1, true);
        z.asks(1, 1, false);
        due.is("P35 what came first, holds on", z.odds(0, 1, 0), 0);
        y.live(0, true);
        y.ask(0);
        y.live(0, false);
        due.is("P35 what holds is left out", y.odds(2, 1, 0), 1);
        due.is("P35 so by five", y.odds(2, 1, 1), 5);
    }

    private static void wild() {
        WishClerk x = new WishClerk();
        due.is("P36 none", x.wild(1, 1, 0), -2);
        due.is("P36 bad ahead", x.wild(1, 0, 0), -1);
        x = Due.told("one dead;one barred;wish 0 0 0;wish 0 0 1;");
        due.is("P36 n below", x.wild(1, 0, 0), -1);
        due.is("P36 n above", x.wild(1, 61, 0), -1);
        due.is("P36 what", x.wild(1, 1, 2), -1);
        due.is("P36 what below", x.wild(1, 1, -1), -1);
        // 0 becomes 12345, whose bits 16 to 30 are 0; then -740551042, whose bits are 21468.
        due.is("P36 first", x.wild(0, 1, 0), 1);
        due.is("P36 first not refused", x.wild(0, 1, 1), 0);
        due.is("P36 second takes it back", x.wild(0, 2, 1), 0);
        due.is("P36 who lives, lives on", x.wild(0, 2, 0), 1);
        due.is("P36 nothing is changed", x.rule(5), 0);
        due.is("P36 nobody came", x.rule(3), 0);
        due.is("P36 refused of 60", x.wild(7, 60, 1), asked(7, 60));
        due.is("P36 least seed", x.wild(Integer.MIN_VALUE, 60, 1), asked(Integer.MIN_VALUE, 60));
        due.is("P36 seed -1", x.wild(-1, 60, 1), asked(-1, 60));
        WishClerk y = Due.told("one dead;wish 0 0 0;");
        y.ask(0);
        y.live(0, false);
        due.is("P36 taken back only", y.wild(5, 1, 0), 0);
        due.is("P36 taken back and asked", y.wild(5, 2, 0), 1);
        WishClerk z = Due.told("one dead;one alive;wish 0 0 0;");
        due.is("P36 who lived, lives on", z.wild(5, 1, 0), 3);
        due.is("P36 asked, taken back, never refused", z.wild(5, 60, 1), 0);
        WishClerk both = Due.told("wish 0 0;wish 0 0;clash 0 1;");
        for (int n = 1; n <= 60; n++) {
            due.is("P36 clash, " + n, both.wild(99, n, 1), shutOut(99, n));
        }
    }

    /** How often one of two wishes that clash is asked while the other one holds. */
    private static int shutOut(int seed, int n) {
        long s = seed;
        int holding = -1;
        int times = 0;
        for (int i = 0; i < n; i++) {
            s = s * 1103515245L + 12345L & 0xffffffffL;
            int w = (int) (s / 65536 % 32768 % 2);
            if (holding == w) {
                holding = -1;
            } else if (holding >= 0) {
                times++;
            } else {
                holding = w;
            }
        }
        return times;
    }

    /** How often wish 1 of two, which is always refused, is asked. */
    private static int asked(int seed, int n) {
        long s = seed;
        int times = 0;
        for (int i = 0; i < n; i++) {
            s = s * 1103515245L + 12345L & 0xffffffffL;
            times += (int) (s / 65536 % 32768 % 2);
        }
        return times;
    }
}
