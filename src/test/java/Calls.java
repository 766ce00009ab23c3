import java.lang.reflect.InvocationTargetException;
import java.lang.reflect.Method;
import java.util.HashMap;
import java.util.Map;

/** Calls told as text, "ask 3" or "live 0 true", so that a run can be made again on another object. */
final class Calls {
    private static final Map<String, Method> METHODS = new HashMap<>();
    private static final Map<String, Object[]> ARGUMENTS = new HashMap<>();

    static {
        for (Method m : WishClerk.class.getMethods()) {
            if (m.getDeclaringClass() == WishClerk.class) {
                METHODS.put(m.getName(), m);
            }
        }
    }

    private Calls() {
    }

    static String nameOf(String call) {
        int blank = call.indexOf(' ');
        return blank < 0 ? call : call.substring(0, blank);
    }

    static long make(WishClerk x, String call) {
        Object[] arguments = ARGUMENTS.computeIfAbsent(call, Calls::argumentsOf);
        try {
            return ((Number) METHODS.get(nameOf(call)).invoke(x, arguments)).longValue();
        } catch (InvocationTargetException | IllegalAccessException e) {
            throw new IllegalStateException(call + " threw", e);
        }
    }

    private static Object[] argumentsOf(String call) {
        String[] words = call.split(" ");
        Object[] found = new Object[words.length - 1];
        for (int i = 0; i < found.length; i++) {
            String word = words[i + 1];
            boolean truth = word.equals("true") || word.equals("false");
            found[i] = truth ? (Object) Boolean.valueOf(word) : (Object) Integer.valueOf(word);
        }
        return found;
    }
}
