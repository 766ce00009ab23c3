import java.io.IOException;
import java.lang.reflect.Constructor;
import java.lang.reflect.Field;
import java.lang.reflect.Method;
import java.lang.reflect.Modifier;
import java.nio.file.Files;
import java.nio.file.Path;
import java.util.Arrays;
import java.util.Map;
import java.util.Set;
import java.util.TreeMap;
import java.util.TreeSet;
import java.util.regex.Matcher;
import java.util.regex.Pattern;

/** The public face of the document, and those rules of LANGUAGE.md that can be seen in the file from afar. */
public final class FaceTest {
    private static final String[] FACE = {
        "feed(int)int", "end(int)int", "text()int", "fault()int", "rule(int)int", "wish(int,int)int", "plan(int)int",
        "live(int,boolean)int", "bar(int,boolean)int", "list(int,boolean)int", "depth(int)int",
        "asks(int,int,boolean)int", "needs(int,int,boolean)int", "clash(int,int,boolean)int", "plans(int)int",
        "cut(int)int", "looks(int)int", "refuses(int)int", "ask(int)int", "take(int)int", "clashes()int",
        "broken()int", "row(int,int)int", "cheap(int)int", "deep(int)int", "fewest(int,int)int", "all()int",
        "set(int)int", "rid(int)int", "date(int)int", "see(int,boolean)int", "forget(int)int", "fits(int)int",
        "odds(int,int,int)long", "wild(int,int,int)int", "keep(int)int", "back(int)int", "sheet(int,int,int)int",
        "lay(int,int,int)int", "read(int,int,int,int)int", "torn()int", "count(int)int"};
    private static final String[] RULED_OUT = {"throw", "throws", "try", "catch", "synchronized", "assert", "import",
        "package", "protected", "var", "Object", "Random", "Thread", "native", "volatile"};
    /** A method begins on a line that ends with ") {" and ends with the first brace as far in as that line. */
    private static final Pattern METHOD = Pattern.compile(
        "(?m)^( {4}| {8})(?!if|for|while|switch|\\})[a-zA-Z][^=;\n]*?(\\w+)\\([^=;\n]*\\) \\{\n((?:.*\n)*?)\\1\\}\n");
    private static final int MOST_DEEP = 8;
    private static final Due due = new Due();

    public static void main(String[] args) throws IOException {
        members();
        constants();
        String file = Files.readString(Path.of(args[0]));
        String code = file.replaceAll("(?s)/\\*.*?\\*/", " ").replaceAll("//[^\n]*", " ").replaceAll("\"[^\"\n]*\"", "\"\"");
        words(code);
        methods(code);
        due.end("FaceTest");
    }

    private static void members() {
        Set<String> found = new TreeSet<>();
        Set<String> publicNames = new TreeSet<>();
        for (Method m : WishClerk.class.getDeclaredMethods()) {
            if (!Modifier.isPrivate(m.getModifiers())) {
                String types = String.join(",", Arrays.stream(m.getParameterTypes()).map(Class::getName).toList());
                found.add(m.getName() + "(" + types + ")" + m.getReturnType());
                publicNames.add(m.getName());
                due.is("public " + m.getName(), m.getModifiers(), Modifier.PUBLIC);
            }
        }
        Set<String> want = new TreeSet<>(Arrays.asList(FACE));
        due.is("the face: " + found, found.equals(want) ? 1 : 0, 1);
        Constructor<?>[] all = WishClerk.class.getDeclaredConstructors();
        due.is("one constructor", all.length, 1);
        due.is("public, of nothing", all[0].getModifiers() + all[0].getParameterCount(), Modifier.PUBLIC);
        due.is("the class", WishClerk.class.getModifiers(), Modifier.PUBLIC | Modifier.FINAL);
        privateNames(WishClerk.class, publicNames);
        for (Class<?> inside : WishClerk.class.getDeclaredClasses()) {
            due.is("static " + inside, Modifier.isStatic(inside.getModifiers()) ? 1 : 0, 1);
            due.is("fields of " + inside, fieldCount(inside) <= 20 ? 1 : 0, 1);
            privateNames(inside, publicNames);
        }
    }

    private static void privateNames(Class<?> of, Set<String> publicNames) {
        for (Method m : of.getDeclaredMethods()) {
            boolean own = Modifier.isPublic(m.getModifiers());
            due.is("no second " + m.getName(), own || !publicNames.contains(m.getName()) ? 1 : 0, 1);
            due.is("parameters of " + m.getName(), m.getParameterCount() <= 7 ? 1 : 0, 1);
        }
    }

    private static long fieldCount(Class<?> of) {
        return Arrays.stream(of.getDeclaredFields()).filter(f -> !Modifier.isStatic(f.getModifiers())).count();
    }

    private static void constants() {
        int found = 0;
        for (Field f : WishClerk.class.getDeclaredFields()) {
            if (!Modifier.isPrivate(f.getModifiers())) {
                found++;
                due.is("constant " + f.getName(), f.getModifiers(), Modifier.PUBLIC | Modifier.STATIC | Modifier.FINAL);
            }
        }
        due.is("four constants", found, 4);
        due.is("BAD", WishClerk.BAD, -1);
        due.is("STATE", WishClerk.STATE, -2);
        due.is("FULL", WishClerk.FULL, -3);
        due.is("NONE", WishClerk.NONE, -4);
    }

    private static void words(String code) {
        for (String word : RULED_OUT) {
            due.is("the word " + word, Pattern.compile("\\b" + word + "\\b").matcher(code).find() ? 1 : 0, 0);
        }
        due.is("no lambda, no method reference", code.contains("->") || code.contains("::") ? 1 : 0, 0);
        due.is("signs", code.chars().allMatch(c -> c == '\n' || c >= 32 && c < 127) ? 1 : 0, 1);
    }

    private static void methods(String code) {
        Map<String, String> bodies = new TreeMap<>();
        Matcher m = METHOD.matcher(code);
        while (m.find()) {
            due.is("short: " + m.group(2), m.group(3).lines().count() <= 60 ? 1 : 0, 1);
            due.is("one method of this name: " + m.group(2), bodies.put(m.group(2), m.group(3)) == null ? 1 : 0, 1);
        }
        due.is("methods are found", bodies.size() > 60 ? 1 : 0, 1);
        for (String name : bodies.keySet()) {
            int deep = depthOfCalls(name, bodies, 1);
            due.is("calls go eight deep at most: " + name + " goes " + deep, deep <= MOST_DEEP ? 1 : 0, 1);
        }
    }

    /** Names are unlike, so a name with a bracket behind it is the call of that method; what calls itself has no end here. */
    private static int depthOfCalls(String name, Map<String, String> bodies, int level) {
        int deepest = 1;
        Matcher m = Pattern.compile("(\\w+)\\(").matcher(bodies.get(name));
        while (level <= MOST_DEEP && m.find()) {
            if (bodies.containsKey(m.group(1))) {
                deepest = Math.max(deepest, 1 + depthOfCalls(m.group(1), bodies, level + 1));
            }
        }
        return deepest;
    }
}
