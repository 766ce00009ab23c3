import java.util.Random;

/** Long runs of calls, by fixed seeds, on the class and on PlainClerk: every answer must be alike. */
public final class ModelTest {
    private static final int RUNS = 2000;
    private static final int CALLS = 500;
    private static final int[] CHANGES = {9, 9, 10, 11, 12, 13, 13, 13, 14, 14, 14, 15, 15, 16};
    private static final int[] AGAIN = {9, 21, 21, 38, 20, 40, 41, 24, 27};
    private static final String EIGHT = "one dead;".repeat(8) + "wish 2 3;".repeat(8) + "plan 7;depth 1;";

    private final Random random;
    private final WishClerk x = new WishClerk();
    private final PlainClerk y = new PlainClerk();
    private String call;
    private int left = CALLS;

    private ModelTest(long seed) {
        random = new Random(seed);
    }

    public static void main(String[] args) {
        Due due = new Due();
        int[] seen = new int[44];
        int[] good = new int[44];
        for (int seed = 0; seed < RUNS; seed++) {
            new ModelTest(seed).run(due, seed, seen, good);
        }
        for (int promise = 2; promise <= 43; promise++) {
            due.is("P" + promise + " was asked and answered well often enough", good[promise] > 50 ? 1 : 0, 1);
        }
        due.end("ModelTest");
    }

    /** Some runs are of texts alone; the others tell a good one, change much of it, and then ask. */
    private void run(Due due, int seed, int[] seen, int[] good) {
        boolean textsAlone = seed % 5 == 0;
        boolean eight = seed % 5 == 1;
        int toChange = 0;
        while (left > 0) {
            if (textsAlone && left > 170 || x.rule(1) == 0 && left > 300) {
                feedAll(due, seed, eight ? EIGHT : textOf(textsAlone));
                call = "text";
                due.is("seed " + seed + ": text", x.text(), y.text());
                due.is("seed " + seed + ": fault", x.fault(), y.fault());
                left -= 2;
                toChange = 10 + random.nextInt(40);
            } else if (toChange > 0) {
                toChange--;
                one(due, seed, seen, good, CHANGES[random.nextInt(CHANGES.length)]);
            } else {
                int promise = 2 + random.nextInt(42);
                // A text would mostly end all; and what is taken back or dead is to be asked for again.
                promise = promise == 4 && random.nextInt(12) > 0 ? 5 : promise;
                one(due, seed, seen, good, random.nextInt(3) == 0 ? AGAIN[random.nextInt(AGAIN.length)] : promise);
            }
        }
    }

    private void one(Due due, int seed, int[] seen, int[] good, int promise) {
        left--;
        long[] got = answers(promise);
        seen[promise]++;
        if (got[0] >= 0) {
            good[promise]++;
        }
        due.is("seed " + seed + ", " + (CALLS - left) + ": " + call, got[0], got[1]);
    }

    private void feedAll(Due due, int seed, String text) {
        for (int i = 0; i < text.length(); i++) {
            left--;
            due.is("seed " + seed + ": feed", x.feed(text.charAt(i)), y.feed(text.charAt(i)));
        }
    }

    /** A text that is mostly right or, with faults, often has a byte changed. */
    private String textOf(boolean faults) {
        StringBuilder b = new StringBuilder();
        int people = faults ? random.nextInt(10) : 3 + random.nextInt(3);
        int wishes = faults ? random.nextInt(10) : 3 + random.nextInt(4);
        for (int p = 0; p < people; p++) {
            b.append("one ").append(new String[] {"alive", "dead", "barred", "dead", "barred"}[random.nextInt(5)]).append(";");
        }
        for (int w = 0; w < wishes; w++) {
            b.append("wish ").append(random.nextInt(10)).append(" ").append(random.nextInt(10));
            if (people > 0 && random.nextInt(4) > 0) {
                b.append(" ").append(random.nextInt(people));
            }
            b.append(";");
        }
        String[] kinds = {"needs", "clash", "list", "plan", "depth", "needs", "clash", "plan"};
        for (int i = faults ? random.nextInt(10) : 0; i > 0; i--) {
            String kind = kinds[random.nextInt(kinds.length)];
            b.append(kind).append(random.nextInt(9) == 0 ? "  " : " ").append(random.nextInt(wishes + 1));
            if (kind.equals("needs") || kind.equals("clash")) {
                b.append(" ").append(random.nextInt(wishes + 1));
            }
            b.append(";");
        }
        if (faults && random.nextInt(3) == 0 && b.length() > 0) {
            b.setCharAt(random.nextInt(b.length()), " ;0189aAewo".charAt(random.nextInt(11)));
        }
        return b.substring(0, Math.min(b.length(), 160));
    }

    private int near(int most) {
        return random.nextInt(25) == 0 ? random.nextInt(2) == 0 ? -1 : most + 1 : random.nextInt(most + 1);
    }

    private int wish() {
        return near(Math.max(0, x.rule(1) - 1));
    }

    private int one() {
        return near(Math.max(0, x.rule(0) - 1));
    }

    private int lay() {
        return random.nextInt(8) == 0 ? random.nextInt() : wish() + (random.nextInt(6) == 0 ? 256 : 0);
    }

    private long[] both(String name, long got, long want) {
        call = name;
        return new long[] {got, want};
    }

    private long[] answers(int promise) {
        int w = wish();
        int v = wish();
        int p = one();
        boolean is = random.nextInt(3) > 0;
        switch (promise) {
            case 2: { int c = random.nextInt(3) == 0 ? near(127) : " ;one0".charAt(random.nextInt(6)); return both("feed " + c, x.feed(c), y.feed(c)); }
            case 3: { int n = near(x.count(4)); return both("end " + n, x.end(n), y.end(n)); }
            case 4: return both("text", x.text(), y.text());
            case 5: return both("fault", x.fault(), y.fault());
            case 6: { int n = near(7); return both("rule " + n, x.rule(n), y.rule(n)); }
            case 7: { int n = near(6); return both("wish " + w + " " + n, x.wish(w, n), y.wish(w, n)); }
            case 8: { int n = near(Math.max(0, x.rule(7) - 1)); return both("plan " + n, x.plan(n), y.plan(n)); }
            case 9: { boolean so = random.nextInt(5) == 0; return both("live " + p + so, x.live(p, so), y.live(p, so)); }
            case 10: { boolean so = random.nextInt(3) == 0; return both("bar " + p + so, x.bar(p, so), y.bar(p, so)); }
            case 11: { boolean so = random.nextInt(5) == 0; return both("list " + w + so, x.list(w, so), y.list(w, so)); }
            case 12: { int n = near(8); n = random.nextInt(4) > 0 ? Math.min(n, 2) : n; return both("depth " + n, x.depth(n), y.depth(n)); }
            case 13: { boolean so = random.nextInt(2) == 0; return both("asks " + w + p + so, x.asks(w, p, so), y.asks(w, p, so)); }
            case 14: { boolean so = random.nextInt(2) == 0; return both("needs " + w + v + so, x.needs(w, v, so), y.needs(w, v, so)); }
            case 15: { boolean so = random.nextInt(3) == 0; return both("clash " + w + v + so, x.clash(w, v, so), y.clash(w, v, so)); }
            case 16: return both("plans " + w, x.plans(w), y.plans(w));
            case 17: { int n = near(x.rule(7)); return both("cut " + n, x.cut(n), y.cut(n)); }
            case 18: return both("looks " + w, x.looks(w), y.looks(w));
            case 19: return both("refuses " + w, x.refuses(w), y.refuses(w));
            case 20: return both("ask " + w, x.ask(w), y.ask(w));
            case 21: return both("take " + w, x.take(w), y.take(w));
            case 22: return both("clashes", x.clashes(), y.clashes());
            case 23: return both("broken", x.broken(), y.broken());
            default: return moreAnswers(promise, w, p, is);
        }
    }

    private long[] moreAnswers(int promise, int w, int p, boolean is) {
        int what = near(1);
        switch (promise) {
            case 24: { int n = random.nextInt(2) == 0 ? 0 : random.nextInt(4) == 0 ? near(20) : 10 + random.nextInt(4); return both("row " + p + " " + n, x.row(p, n), y.row(p, n)); }
            case 25: return both("cheap " + p, x.cheap(p), y.cheap(p));
            case 26: return both("deep " + p, x.deep(p), y.deep(p));
            case 27: return both("fewest " + p + what, x.fewest(p, what), y.fewest(p, what));
            case 28: return both("all", x.all(), y.all());
            case 29: return both("set " + what, x.set(what), y.set(what));
            case 30: return both("rid " + what, x.rid(what), y.rid(what));
            case 31: return both("date " + w, x.date(w), y.date(w));
            case 32: return both("see " + p + is, x.see(p, is), y.see(p, is));
            case 33: { int n = near(x.count(2)); return both("forget " + n, x.forget(n), y.forget(n)); }
            case 34: { int n = near(3); return both("fits " + n, x.fits(n), y.fits(n)); }
            case 35: { int v = near(10); return both("odds " + v + " " + p + what, x.odds(v, p, what), y.odds(v, p, what)); }
            case 36: { int s = random.nextInt(); int n = near(60); return both("wild " + s + " " + n + " " + what, x.wild(s, n, what), y.wild(s, n, what)); }
            case 37: { int k = near(1); return both("keep " + k, x.keep(k), y.keep(k)); }
            case 38: { int k = near(1); return both("back " + k, x.back(k), y.back(k)); }
            case 39: { int k = near(3); int lane = random.nextInt(3) > 0 ? k % 3 : near(2); int n = random.nextInt(3) == 0 ? near(40) : near(4); return both("sheet " + k + lane + n, x.sheet(k, lane, n), y.sheet(k, lane, n)); }
            case 40: { int k = near(3); int i = near(4); int v = lay(); return both("lay " + k + i + " " + v, x.lay(k, i, v), y.lay(k, i, v)); }
            case 41: { int k = near(3); int lane = random.nextInt(6) > 0 ? k % 3 : near(2); int f = random.nextInt(9) == 0 ? random.nextInt() : near(3); int n = random.nextInt(4) == 0 ? near(20) : near(2); return both("read " + k + lane + f + n, x.read(k, lane, f, n), y.read(k, lane, f, n)); }
            case 42: return both("torn", x.torn(), y.torn());
            default: { int n = near(7); return both("count " + n, x.count(n), y.count(n)); }
        }
    }
}
