import java.util.ArrayList;
import java.util.HashMap;
import java.util.List;
import java.util.Map;
import java.util.Set;

/**
 * A run of calls on a new object with the answers that are due. Behind each call that is refused, and each that only
 * asks, the object must be as it was: "what is refused changes nothing (but THE TAPE, as told)".
 */
final class Run {
    static final int BAD = -1, STATE = -2, FULL = -3, NONE = -4;
    static final int LEAST = Integer.MIN_VALUE, MOST = Integer.MAX_VALUE;

    private static final int MOST_CALLS = 512;
    private static final Set<String> ASKING = Set.of("fault", "rule", "wish", "plan", "looks", "refuses", "clashes",
        "broken", "row", "cheap", "deep", "fewest", "all", "set", "rid", "date", "fits", "odds", "wild", "torn", "count");

    private final Due due;
    private final String name;
    private final WishClerk x = new WishClerk();
    private final List<String> calls = new ArrayList<>();
    private Map<String, List<Long>> look;

    Run(Due due, String name) {
        this.due = due;
        this.name = name;
    }

    Run is(String call, long want) {
        boolean text = call.equals("text");
        boolean changesNothing = want < 0 || ASKING.contains(Calls.nameOf(call));
        Map<String, List<Long>> before = changesNothing ? lookBefore(text) : null;
        due.is(name + ", call " + (calls.size() + 1) + ": " + call, make(call), want);
        if (changesNothing) {
            look = Look.behind(calls);
            Map<String, List<Long>> now = look;
            if (text) {
                now = new HashMap<>(look);
                now.remove("fault");
            }
            String other = Look.difference(before, now);
            due.is(name + ": " + call + " changes nothing, but there is another answer to " + other, other == null ? 0 : 1, 0);
        }
        return this;
    }

    /** A text that is refused is to leave all as it was but for an empty tape. */
    private Map<String, List<Long>> lookBefore(boolean text) {
        if (text) {
            List<String> emptied = new ArrayList<>(calls);
            emptied.add("end 0");
            return Look.behind(emptied);
        }
        return look == null ? Look.behind(calls) : look;
    }

    /** The answer is the same for each of these. */
    Run each(long want, String... some) {
        for (String call : some) {
            is(call, want);
        }
        return this;
    }

    /** A call of which no answer is due here: what it does is seen by others. */
    Run call(String... some) {
        for (String call : some) {
            make(call);
        }
        return this;
    }

    private long make(String call) {
        if (calls.size() >= MOST_CALLS) {
            throw new IllegalStateException(name + " goes beyond the 512th call");
        }
        look = null;
        calls.add(call);
        return Calls.make(x, call);
    }

    Run feed(String bytes) {
        for (int i = 0; i < bytes.length(); i++) {
            make("feed " + (int) bytes.charAt(i));
        }
        return this;
    }

    Run tell(String text) {
        feed(text);
        due.is(name + ": the text is taken: " + text, make("text") < 0 ? 1 : 0, 0);
        return this;
    }

    Run lines(String text, int want) {
        return feed(text).is("text", want).is("fault", 0);
    }

    Run fault(String text, int fault, int place) {
        return feed(text).is("text", -10 - place).is("fault", fault);
    }

    int callsLeft() {
        return MOST_CALLS - calls.size();
    }
}
