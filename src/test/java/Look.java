import java.util.ArrayList;
import java.util.HashMap;
import java.util.List;
import java.util.Map;

/**
 * What can be learnt of an object from outside. Much of it (cells, images, what was seen, the tape) is learnt
 * only by calls that change it, so each part looks at an object of its own to which the same run was done. It is not
 * all: of a sheet five cells are read, and of the tape only what text() makes of it is seen.
 */
final class Look {
    private static final int MOST_CALLS = 512;
    private static final Map<String, List<String>> PARTS = parts();

    private Look() {
    }

    /** What the parts find behind a run, by their names; a part that would go beyond the 512th call is left out. */
    static Map<String, List<Long>> behind(List<String> run) {
        Map<String, List<Long>> found = new HashMap<>();
        for (Map.Entry<String, List<String>> part : PARTS.entrySet()) {
            if (run.size() + part.getValue().size() <= MOST_CALLS) {
                found.put(part.getKey(), answers(run, part.getValue()));
            }
        }
        return found;
    }

    /** The first call of a part that both have made and that was answered otherwise, or null. */
    static String difference(Map<String, List<Long>> one, Map<String, List<Long>> other) {
        for (Map.Entry<String, List<Long>> part : one.entrySet()) {
            List<Long> answers = other.get(part.getKey());
            for (int i = 0; answers != null && i < answers.size(); i++) {
                if (!answers.get(i).equals(part.getValue().get(i))) {
                    return part.getKey() + ": " + PARTS.get(part.getKey()).get(i);
                }
            }
        }
        return null;
    }

    private static List<Long> answers(List<String> run, List<String> part) {
        WishClerk x = new WishClerk();
        for (String call : run) {
            Calls.make(x, call);
        }
        List<Long> found = new ArrayList<>();
        for (String call : part) {
            found.add(Calls.make(x, call));
        }
        return found;
    }

    private static Map<String, List<String>> parts() {
        Map<String, List<String>> all = new HashMap<>();
        all.put("fault", List.of("fault"));
        all.put("told", told());
        all.put("asked", asked());
        all.put("seen", seen());
        for (int k = 0; k < 2; k++) {
            all.put("image " + k, behindFirst("back " + k, told()));
            all.put("seen of image " + k, behindFirst("back " + k, seen()));
        }
        for (int k = 0; k < 4; k++) {
            all.put("size of sheet " + k, size(k));
            for (int lane = 0; lane < 3; lane++) {
                all.put("lane " + lane + " of sheet " + k, cells(k, lane));
            }
        }
        all.put("tape", behindFirst("text", told()));
        return all;
    }

    private static List<String> behindFirst(String first, List<String> rest) {
        List<String> part = new ArrayList<>(rest);
        part.add(0, first);
        return part;
    }

    private static List<String> told() {
        List<String> part = new ArrayList<>();
        for (int what = 0; what < 8; what++) {
            part.add("rule " + what);
            part.add("count " + what);
        }
        for (int w = 0; w < 8; w++) {
            for (int what = 0; what < 7; what++) {
                part.add("wish " + w + " " + what);
            }
        }
        for (int i = 0; i < 6; i++) {
            part.add("plan " + i);
        }
        part.add("torn");
        return part;
    }

    private static List<String> asked() {
        List<String> part = new ArrayList<>();
        for (int i = 0; i < 8; i++) {
            part.addAll(List.of("looks " + i, "refuses " + i, "date " + i, "row " + i + " 0", "cheap " + i));
        }
        for (String call : new String[] {"clashes", "broken", "all", "row 0 10", "deep 0", "fewest 0 1", "set 1", "rid 1",
            "odds 3 0 0", "odds 3 0 1", "wild 5 60 0", "wild 5 60 1"}) {
            part.add(call);
        }
        return part;
    }

    /** With nobody alive each one more of what was seen tells in which sets fit. */
    private static List<String> seen() {
        List<String> part = new ArrayList<>();
        for (int p = 0; p < 8; p++) {
            part.add("live " + p + " false");
        }
        for (int n = 8; n >= 0; n--) {
            part.add("forget " + n);
            for (int what = 0; what < 4; what++) {
                part.add("fits " + what);
            }
        }
        return part;
    }

    private static List<String> size(int k) {
        List<String> part = new ArrayList<>();
        for (int i = 0; i <= 40; i++) {
            part.add("lay " + k + " " + i + " 0");
        }
        return part;
    }

    /** Nothing holds when a cell is read, so that what holds then tells which wish stands in it. */
    private static List<String> cells(int k, int lane) {
        List<String> part = new ArrayList<>();
        for (int i : new int[] {0, 1, 2, 8, 39}) {
            for (int w = 0; w < 8; w++) {
                part.add("take " + w);
            }
            part.addAll(List.of("read " + k + " " + lane + " " + i + " 1", "rule 5", "torn"));
        }
        return part;
    }
}
