import java.math.BigInteger;
import java.util.ArrayList;
import java.util.Arrays;
import java.util.HashMap;
import java.util.List;
import java.util.Map;
import java.util.TreeSet;

/**
 * The document once more, told with sets and by trying everything, for ModelTest to hold the class against.
 * It shares no code and, where it can, no way of reckoning with the class.
 */
final class PlainClerk {
    private static final int BAD = -1, STATE = -2, FULL = -3, NONE = -4;

    private static final class Wish {
        int years;
        int price;
        TreeSet<Integer> ones = new TreeSet<>();
        TreeSet<Integer> needs = new TreeSet<>();
        TreeSet<Integer> clashes = new TreeSet<>();

        Wish copy() {
            Wish c = new Wish();
            c.years = years;
            c.price = price;
            c.ones.addAll(ones);
            c.needs.addAll(needs);
            c.clashes.addAll(clashes);
            return c;
        }
    }

    private static final class World {
        int people;
        int depth;
        List<Wish> wishes = new ArrayList<>();
        TreeSet<Integer> lives = new TreeSet<>();
        TreeSet<Integer> barred = new TreeSet<>();
        TreeSet<Integer> holds = new TreeSet<>();
        TreeSet<Integer> list = new TreeSet<>();
        List<Integer> plan = new ArrayList<>();
        List<int[]> seen = new ArrayList<>();

        World copy() {
            World c = new World();
            c.people = people;
            c.depth = depth;
            for (Wish w : wishes) {
                c.wishes.add(w.copy());
            }
            c.lives.addAll(lives);
            c.barred.addAll(barred);
            c.holds.addAll(holds);
            c.list.addAll(list);
            c.plan.addAll(plan);
            c.seen.addAll(seen);
            return c;
        }

        boolean one(int p) {
            return 0 <= p && p < people;
        }

        boolean wish(int w) {
            return 0 <= w && w < wishes.size();
        }

        TreeSet<Integer> follow(int w) {
            TreeSet<Integer> met = new TreeSet<>();
            List<Integer> open = new ArrayList<>(List.of(w));
            while (!open.isEmpty()) {
                int v = open.remove(open.size() - 1);
                if (met.add(v)) {
                    open.addAll(wishes.get(v).needs);
                }
            }
            return met;
        }

        TreeSet<Integer> followAll(Iterable<Integer> group) {
            TreeSet<Integer> met = new TreeSet<>();
            for (int w : group) {
                met.addAll(follow(w));
            }
            return met;
        }

        TreeSet<Integer> onesOf(Iterable<Integer> group) {
            TreeSet<Integer> met = new TreeSet<>();
            for (int w : group) {
                met.addAll(wishes.get(w).ones);
            }
            return met;
        }

        TreeSet<Integer> looks(int w) {
            TreeSet<Integer> met = new TreeSet<>();
            met.add(w);
            TreeSet<Integer> edge = new TreeSet<>(met);
            for (int i = 0; i < depth; i++) {
                TreeSet<Integer> next = new TreeSet<>();
                for (int v : edge) {
                    for (int u : wishes.get(v).needs) {
                        if (!holds.contains(u)) {
                            next.add(u);
                        }
                    }
                }
                met.addAll(next);
                edge = next;
            }
            return met;
        }

        int refuses(int w) {
            if (list.contains(w)) {
                return 1;
            }
            TreeSet<Integer> looked = looks(w);
            for (int v : looked) {
                for (int p : wishes.get(v).ones) {
                    if (barred.contains(p) && !lives.contains(p)) {
                        return 2;
                    }
                }
            }
            for (int v : looked) {
                for (int u : wishes.get(v).clashes) {
                    if (looked.contains(u) || holds.contains(u)) {
                        return 3;
                    }
                }
            }
            return 0;
        }

        void grant(int w) {
            TreeSet<Integer> all = follow(w);
            holds.addAll(all);
            lives.addAll(onesOf(all));
        }

        int ask(int w) {
            if (!wish(w)) {
                return BAD;
            }
            if (holds.contains(w)) {
                return STATE;
            }
            if (refuses(w) != 0) {
                return NONE;
            }
            int had = lives.size();
            grant(w);
            return lives.size() - had;
        }

        int take(int w) {
            if (!wish(w)) {
                return BAD;
            }
            if (!holds.contains(w)) {
                return STATE;
            }
            int had = holds.size();
            holds.removeIf(v -> follow(v).contains(w));
            return had - holds.size();
        }

        int clashPairs() {
            int pairs = 0;
            for (int w : holds) {
                for (int v : holds) {
                    if (w < v && wishes.get(w).clashes.contains(v)) {
                        pairs++;
                    }
                }
            }
            return pairs;
        }

        /** Every row is walked; only the states that were met by as good a row already are left. */
        void walk(List<Integer> row, int cost, int p, Best best, Map<String, List<Integer>> met) {
            if (lives.contains(p)) {
                best.offer(row, cost);
            }
            best.alive.addAll(lives);
            String key = holds.toString() + lives + cost;
            List<Integer> old = met.get(key);
            if (old != null && Best.compare(old, row) <= 0) {
                return;
            }
            met.put(key, new ArrayList<>(row));
            for (int w = 0; w < wishes.size(); w++) {
                if (holds.contains(w) || refuses(w) != 0) {
                    continue;
                }
                TreeSet<Integer> h = holds;
                TreeSet<Integer> l = lives;
                holds = new TreeSet<>(h);
                lives = new TreeSet<>(l);
                grant(w);
                row.add(w);
                walk(row, cost + wishes.get(w).price, p, best, met);
                row.remove(row.size() - 1);
                holds = h;
                lives = l;
            }
        }

        Best rows(int p) {
            Best best = new Best();
            copy().walk(new ArrayList<>(), 0, p, best, new HashMap<>());
            return best;
        }

        boolean reachable(int p) {
            return rows(p).row != null;
        }
    }

    private static final class Best {
        List<Integer> row;
        int cost = Integer.MAX_VALUE;
        TreeSet<Integer> alive = new TreeSet<>();

        static int compare(List<Integer> a, List<Integer> b) {
            if (a.size() != b.size()) {
                return a.size() - b.size();
            }
            for (int i = 0; i < a.size(); i++) {
                if (!a.get(i).equals(b.get(i))) {
                    return a.get(i) - b.get(i);
                }
            }
            return 0;
        }

        void offer(List<Integer> found, int price) {
            cost = Math.min(cost, price);
            if (row == null || compare(found, row) < 0) {
                row = new ArrayList<>(found);
            }
        }
    }

    private World world = new World();
    private final World[] images = new World[2];
    private String tape = "";
    private int fault;
    private int torn;
    private final Object[] sheets = new Object[4];

    private static int bits(Iterable<Integer> set) {
        int b = 0;
        for (int i : set) {
            b += 1 << i;
        }
        return b;
    }

    private TreeSet<Integer> setOf(int bits) {
        TreeSet<Integer> s = new TreeSet<>();
        for (int i = 0; i < 8; i++) {
            if ((bits >> i) % 2 == 1) {
                s.add(i);
            }
        }
        return s;
    }

    private static int change(TreeSet<Integer> set, int i, boolean is) {
        return (is ? !set.add(i) : set.remove(i)) ? 1 : 0;
    }

    int feed(int c) {
        if (c < 0 || c > 127) {
            return BAD;
        }
        if (tape.length() == 160) {
            return FULL;
        }
        tape += (char) c;
        return tape.length();
    }

    int end(int n) {
        if (n < 0 || n > tape.length()) {
            return BAD;
        }
        int had = tape.length();
        tape = tape.substring(0, n);
        return had;
    }

    private static final class TextFault extends RuntimeException {
        private static final long serialVersionUID = 1L;
        final int fault;
        final int place;

        TextFault(int fault, int place) {
            super(null, null, false, false);
            this.fault = fault;
            this.place = place;
        }
    }

    private int at;
    private int start;

    private String token() {
        while (at < tape.length() && tape.charAt(at) == ' ') {
            at++;
        }
        start = at;
        if (at == tape.length()) {
            return "";
        }
        String rest = tape.substring(at);
        String found = rest.startsWith(";") ? ";" : rest.replaceFirst("(?s)^([a-z]+|[0-9]+)?.*$", "$1");
        if (found.isEmpty() || found.matches("[0-9]{3,}")) {
            throw new TextFault(1, start);
        }
        at += found.length();
        return found;
    }

    private int number(int most) {
        String t = token();
        if (!t.matches("[0-9]+")) {
            throw new TextFault(2, start);
        }
        if (Integer.parseInt(t) > most) {
            throw new TextFault(3, start);
        }
        return Integer.parseInt(t);
    }

    private boolean stopAhead() {
        int was = at;
        while (was < tape.length() && tape.charAt(was) == ' ') {
            was++;
        }
        if (was < tape.length() && tape.charAt(was) == ';') {
            at = was + 1;
            return true;
        }
        return false;
    }

    private void stop() {
        if (!token().equals(";")) {
            throw new TextFault(2, start);
        }
    }

    private void check(boolean good, int what, int place) {
        if (!good) {
            throw new TextFault(what, place);
        }
    }

    private int parse(World to) {
        at = 0;
        int lines = 0;
        boolean depth = false;
        List<int[]> needs = new ArrayList<>();
        List<int[]> clashes = new ArrayList<>();
        TreeSet<Integer> named = new TreeSet<>();
        TreeSet<Integer> ones = new TreeSet<>();
        for (String name = token(); !name.isEmpty(); name = token()) {
            int begin = start;
            switch (name) {
                case "one" -> {
                    check(to.people < 8, 5, begin);
                    String k = token();
                    check(List.of("alive", "dead", "barred").contains(k), 2, start);
                    if (k.equals("alive")) {
                        to.lives.add(to.people);
                    } else if (k.equals("barred")) {
                        to.barred.add(to.people);
                    }
                    to.people++;
                    stop();
                }
                case "wish" -> {
                    check(to.wishes.size() < 8, 5, begin);
                    Wish w = new Wish();
                    w.years = number(9);
                    w.price = number(9);
                    while (!stopAhead()) {
                        check(w.ones.add(number(7)), 4, start);
                    }
                    ones.addAll(w.ones);
                    to.wishes.add(w);
                }
                case "needs" -> {
                    int w = number(7);
                    named.add(w);
                    while (!stopAhead()) {
                        int v = number(7);
                        check(v != w && needs.stream().noneMatch(n -> n[0] == w && n[1] == v), 4, start);
                        named.add(v);
                        needs.add(new int[] {w, v});
                    }
                }
                case "clash" -> {
                    int w = number(7);
                    int v = number(7);
                    check(v != w && clashes.stream().noneMatch(n -> n[0] == w && n[1] == v || n[0] == v && n[1] == w), 4, start);
                    named.addAll(List.of(w, v));
                    clashes.add(new int[] {w, v});
                    stop();
                }
                case "list" -> {
                    int w = number(7);
                    check(to.list.add(w), 4, start);
                    named.add(w);
                    stop();
                }
                case "depth" -> {
                    check(!depth, 4, begin);
                    depth = true;
                    to.depth = number(8);
                    stop();
                }
                case "plan" -> {
                    check(to.plan.size() < 6, 5, begin);
                    to.plan.add(number(7));
                    named.add(to.plan.get(to.plan.size() - 1));
                    stop();
                }
                default -> throw new TextFault(2, begin);
            }
            lines++;
        }
        check(ones.isEmpty() || ones.last() < to.people, 6, tape.length());
        check(named.isEmpty() || named.last() < to.wishes.size(), 6, tape.length());
        needs.forEach(n -> to.wishes.get(n[0]).needs.add(n[1]));
        clashes.forEach(n -> to.wishes.get(n[0]).clashes.add(n[1]));
        clashes.forEach(n -> to.wishes.get(n[1]).clashes.add(n[0]));
        return lines;
    }

    int text() {
        World to = new World();
        try {
            int lines = parse(to);
            world = to;
            Arrays.fill(images, null);
            fault = 0;
            return lines;
        } catch (TextFault f) {
            fault = f.fault;
            return -10 - f.place;
        } finally {
            tape = "";
        }
    }

    int fault() {
        return fault;
    }

    int rule(int what) {
        int[] all = {world.people, world.wishes.size(), world.depth, bits(world.lives), bits(world.barred),
            bits(world.holds), bits(world.list), world.plan.size()};
        return what < 0 || what > 7 ? BAD : all[what];
    }

    int wish(int w, int what) {
        if (!world.wish(w) || what < 0 || what > 6) {
            return BAD;
        }
        Wish it = world.wishes.get(w);
        return new int[] {it.years, it.price, bits(it.ones), bits(it.needs), bits(it.clashes),
            bits(world.follow(w)), bits(world.onesOf(world.follow(w)))}[what];
    }

    int plan(int i) {
        return i < 0 || i >= world.plan.size() ? BAD : world.plan.get(i);
    }

    int live(int p, boolean is) {
        return world.one(p) ? change(world.lives, p, is) : BAD;
    }

    int bar(int p, boolean is) {
        return world.one(p) ? change(world.barred, p, is) : BAD;
    }

    int list(int w, boolean is) {
        return world.wish(w) ? change(world.list, w, is) : BAD;
    }

    int depth(int d) {
        if (d < 0 || d > 8) {
            return BAD;
        }
        int was = world.depth;
        world.depth = d;
        return was;
    }

    int asks(int w, int p, boolean is) {
        return world.wish(w) && world.one(p) ? change(world.wishes.get(w).ones, p, is) : BAD;
    }

    int needs(int w, int v, boolean is) {
        return world.wish(w) && world.wish(v) && w != v ? change(world.wishes.get(w).needs, v, is) : BAD;
    }

    int clash(int w, int v, boolean is) {
        if (!world.wish(w) || !world.wish(v) || w == v) {
            return BAD;
        }
        change(world.wishes.get(v).clashes, w, is);
        return change(world.wishes.get(w).clashes, v, is);
    }

    int plans(int w) {
        if (!world.wish(w)) {
            return BAD;
        }
        if (world.plan.size() == 6) {
            return FULL;
        }
        world.plan.add(w);
        return world.plan.size();
    }

    int cut(int n) {
        int had = world.plan.size();
        if (n < 0 || n > had) {
            return BAD;
        }
        world.plan = new ArrayList<>(world.plan.subList(0, n));
        return had;
    }

    int looks(int w) {
        return world.wish(w) ? bits(world.looks(w)) : BAD;
    }

    int refuses(int w) {
        return world.wish(w) ? world.refuses(w) : BAD;
    }

    int ask(int w) {
        return world.ask(w);
    }

    int take(int w) {
        return world.take(w);
    }

    int clashes() {
        return world.clashPairs();
    }

    int broken() {
        TreeSet<Integer> found = new TreeSet<>();
        for (int w : world.holds) {
            for (int v : world.follow(w)) {
                if (!world.holds.contains(v) || !world.lives.containsAll(world.wishes.get(v).ones)) {
                    found.add(w);
                }
            }
        }
        return bits(found);
    }

    int row(int p, int what) {
        if (!world.one(p) || what != 0 && (what < 10 || what > 17)) {
            return BAD;
        }
        List<Integer> row = world.rows(p).row;
        if (row == null) {
            return NONE;
        }
        if (what == 0) {
            return row.size();
        }
        return what - 10 < row.size() ? row.get(what - 10) : NONE;
    }

    int cheap(int p) {
        if (!world.one(p)) {
            return BAD;
        }
        Best best = world.rows(p);
        return best.row == null ? NONE : best.cost;
    }

    int deep(int p) {
        if (!world.one(p)) {
            return BAD;
        }
        if (world.lives.contains(p)) {
            return STATE;
        }
        for (int d = 0; d <= 8; d++) {
            World c = world.copy();
            c.depth = d;
            if (!c.reachable(p)) {
                return d;
            }
        }
        return NONE;
    }

    int fewest(int p, int what) {
        if (!world.one(p) || what < 0 || what > 1) {
            return BAD;
        }
        if (world.lives.contains(p)) {
            return STATE;
        }
        for (int size = 0; ; size++) {
            for (int s = 0; s < 1 << world.wishes.size(); s++) {
                World c = world.copy();
                c.list.addAll(setOf(s));
                if (setOf(s).size() == size && c.list.size() == size + world.list.size() && !c.reachable(p)) {
                    return what == 0 ? size : s;
                }
            }
        }
    }

    int all() {
        return bits(world.rows(-1).alive);
    }

    int set(int what) {
        if (what < 0 || what > 1) {
            return BAD;
        }
        for (int size = 0; size <= 8; size++) {
            for (int s = 0; s < 1 << world.wishes.size(); s++) {
                World c = world.copy();
                c.holds = c.followAll(setOf(s));
                if (setOf(s).size() == size && c.clashPairs() > 0) {
                    return what == 0 ? size : s;
                }
            }
        }
        return NONE;
    }

    int rid(int what) {
        if (what < 0 || what > 1) {
            return BAD;
        }
        for (int size = 0; ; size++) {
            for (int s = 0; s < 1 << world.wishes.size(); s++) {
                TreeSet<Integer> group = setOf(s);
                if (group.size() != size || !world.holds.containsAll(group)) {
                    continue;
                }
                World c = world.copy();
                boolean each = true;
                for (int w : group) {
                    each &= c.take(w) > 0;
                }
                if (each && c.clashPairs() == 0) {
                    return what == 0 ? size : s;
                }
            }
        }
    }

    int date(int w) {
        return world.wish(w) ? dateOf(w, new ArrayList<>()) : BAD;
    }

    private int dateOf(int w, List<Integer> path) {
        if (path.contains(w)) {
            return NONE;
        }
        path.add(w);
        int most = 0;
        for (int v : world.wishes.get(w).needs) {
            int d = dateOf(v, path);
            if (d == NONE) {
                return NONE;
            }
            most = Math.max(most, d);
        }
        path.remove(path.size() - 1);
        return world.wishes.get(w).years + most;
    }

    int see(int p, boolean is) {
        if (!world.one(p)) {
            return BAD;
        }
        if (world.seen.size() == 8) {
            return FULL;
        }
        world.seen.add(new int[] {p, is ? 1 : 0});
        return world.seen.size();
    }

    int forget(int n) {
        int had = world.seen.size();
        if (n < 0 || n > had) {
            return BAD;
        }
        world.seen = new ArrayList<>(world.seen.subList(0, n));
        return had;
    }

    int fits(int what) {
        if (what < 0 || what > 3) {
            return BAD;
        }
        List<TreeSet<Integer>> fitting = new ArrayList<>();
        for (int s = 0; s < 1 << world.wishes.size(); s++) {
            TreeSet<Integer> alive = world.onesOf(world.followAll(setOf(s)));
            alive.addAll(world.lives);
            if (world.seen.stream().allMatch(one -> alive.contains(one[0]) == (one[1] == 1))) {
                fitting.add(setOf(s));
            }
        }
        if (what == 0) {
            return fitting.size();
        }
        if (fitting.isEmpty()) {
            return NONE;
        }
        if (what == 1) {
            return bits(fitting.get(0));
        }
        TreeSet<Integer> found = new TreeSet<>();
        for (int i = 0; i < world.wishes.size(); i++) {
            int w = i;
            long in = fitting.stream().filter(s -> s.contains(w)).count();
            if (in == (what == 2 ? fitting.size() : 0)) {
                found.add(w);
            }
        }
        return bits(found);
    }

    long odds(int v, int p, int what) {
        if (v < 0 || v > 10 || !world.one(p) || what < 0 || what > 1) {
            return BAD;
        }
        BigInteger good = BigInteger.valueOf(chance(world, 0, v, p));
        BigInteger whole = BigInteger.TEN.pow(world.plan.size());
        return (what == 0 ? good : whole).divide(good.gcd(whole)).longValue();
    }

    private long chance(World now, int i, int v, int p) {
        if (i == now.plan.size()) {
            return now.lives.contains(p) ? 1 : 0;
        }
        int w = now.plan.get(i);
        World awake = now.copy();
        World asleep = now.copy();
        awake.ask(w);
        if (!now.holds.contains(w)) {
            asleep.grant(w);
        }
        return v * chance(asleep, i + 1, v, p) + (10 - v) * chance(awake, i + 1, v, p);
    }

    int wild(int seed, int n, int what) {
        if (n < 1 || n > 60 || what < 0 || what > 1) {
            return BAD;
        }
        if (world.wishes.isEmpty()) {
            return STATE;
        }
        World c = world.copy();
        BigInteger s = BigInteger.valueOf(seed);
        int refused = 0;
        for (int i = 0; i < n; i++) {
            s = s.multiply(BigInteger.valueOf(1103515245)).add(BigInteger.valueOf(12345));
            int w = s.shiftRight(16).mod(BigInteger.valueOf(32768)).intValue() % c.wishes.size();
            if (c.holds.contains(w)) {
                c.take(w);
            } else if (c.ask(w) == NONE) {
                refused++;
            }
        }
        return what == 0 ? bits(c.lives) : refused;
    }

    int keep(int k) {
        if (k < 0 || k > 1) {
            return BAD;
        }
        int was = images[k] == null ? 0 : 1;
        images[k] = world.copy();
        return was;
    }

    int back(int k) {
        if (k < 0 || k > 1) {
            return BAD;
        }
        if (images[k] == null) {
            return STATE;
        }
        world = images[k].copy();
        return bits(world.holds);
    }

    int sheet(int k, int lane, int n) {
        if (k < 0 || k > 3 || lane < 0 || lane > 2 || n > 40) {
            return BAD;
        }
        if (n < 0) {
            return -14;
        }
        sheets[k] = lane == 0 ? new byte[n] : lane == 1 ? new short[n] : new int[n];
        return 1;
    }

    int lay(int k, int i, int v) {
        if (k < 0 || k > 3) {
            return BAD;
        }
        try {
            if (sheets[k] instanceof byte[] b) {
                b[i] = (byte) v;
            } else if (sheets[k] instanceof short[] s) {
                s[i] = (short) v;
            } else {
                ((int[]) sheets[k])[i] = v;
            }
            return 1;
        } catch (NullPointerException e) {
            return -11;
        } catch (ArrayIndexOutOfBoundsException e) {
            return -12;
        }
    }

    private int cell(Object sheet, int lane, int i) {
        return lane == 0 ? ((byte[]) sheet)[i] : lane == 1 ? ((short[]) sheet)[i] : ((int[]) sheet)[i];
    }

    int read(int k, int lane, int f, int n) {
        if (k < 0 || k > 3 || lane < 0 || lane > 2 || n < 0 || n > 20) {
            return BAD;
        }
        World before = world.copy();
        int came = 0;
        int found = 0;
        try {
            for (int i = 0; i < n; i++) {
                if (world.ask(cell(sheets[k], lane, f + i)) < 0) {
                    world = before;
                    return -20 - i;
                }
                came++;
            }
        } catch (NullPointerException e) {
            found = 1;
        } catch (ArrayIndexOutOfBoundsException e) {
            found = 2;
        } catch (ClassCastException e) {
            found = 3;
        }
        torn = found;
        return came;
    }

    int torn() {
        return torn;
    }

    int count(int what) {
        switch (what) {
            case 0: return world.lives.size();
            case 1: return world.holds.size();
            case 2: return world.seen.size();
            case 3: return (images[0] == null ? 0 : 1) + (images[1] == null ? 0 : 1);
            case 4: return tape.length();
            case 5: return sheets[0] == null ? NONE : java.lang.reflect.Array.getLength(sheets[0]);
            case 6: return world.list.size();
            case 7: return world.barred.size();
            default: return BAD;
        }
    }
}
