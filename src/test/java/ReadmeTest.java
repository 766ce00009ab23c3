import java.io.IOException;
import java.lang.reflect.Method;
import java.nio.file.Files;
import java.nio.file.Path;
import java.util.List;
import java.util.regex.Matcher;
import java.util.regex.Pattern;
import java.util.stream.Stream;

/** README.md tells the truth: its examples answer what it says, and no call, no line of a text, no test is left out. */
public final class ReadmeTest {
    private static final Pattern BLOCK = Pattern.compile("(?s)```java\n(.*?)```");
    private static final Pattern TEXT = Pattern.compile("String text = \"(.*)\";");
    private static final Pattern CALL = Pattern.compile("clerk\\.([a-z]+)\\(([-0-9a-z, ]*)\\);\\s+// (-?[0-9]+): .*");
    private static final Pattern LINE_TOLD = Pattern.compile("(?m)^\\| (`[a-z0-9 ]+;`.*?) \\| ");
    private static final Due due = new Due();
    private static WishClerk clerk;
    private static String text = "";

    public static void main(String[] args) throws IOException {
        Path root = Path.of(args[0]).toAbsolutePath().resolve("../../../..").normalize();
        String page = Files.readString(root.resolve("README.md"));
        examples(page);
        everyCallIsNamed(page);
        linesAreTaken(page);
        everyTestIsNamed(page, root);
        due.end("ReadmeTest");
    }

    private static void examples(String page) {
        int answers = 0;
        Matcher blocks = BLOCK.matcher(page);
        while (blocks.find()) {
            for (String line : blocks.group(1).split("\n")) {
                answers += example(line.trim()) ? 1 : 0;
            }
        }
        due.is("the page has examples", answers >= 20 ? 1 : 0, 1);
    }

    /** Whether the line tells an answer; a line that can not be understood here is a fault. */
    private static boolean example(String line) {
        Matcher told = TEXT.matcher(line);
        Matcher call = CALL.matcher(line);
        if (call.matches()) {
            String plain = (call.group(1) + " " + call.group(2).replace(",", "")).trim();
            due.is("README: " + line, Calls.make(clerk, plain), Long.parseLong(call.group(3)));
            return true;
        }
        if (told.matches()) {
            text = told.group(1);
        } else if (line.equals("WishClerk clerk = new WishClerk();")) {
            clerk = new WishClerk();
        } else if (line.equals("clerk.feed(text.charAt(i));")) {
            text.chars().forEach(clerk::feed);
        } else {
            List<String> loop = List.of("for (int i = 0; i < text.length(); i++) {", "}");
            due.is("README: understood: " + line, loop.contains(line) ? 1 : 0, 1);
        }
        return false;
    }

    private static void everyCallIsNamed(String page) {
        for (Method m : WishClerk.class.getMethods()) {
            if (m.getDeclaringClass() == WishClerk.class) {
                Matcher named = Pattern.compile("(?m)^\\| .*`" + m.getName() + "\\(([a-z, ]*)\\)`").matcher(page);
                boolean found = named.find();
                due.is("README: names " + m.getName(), found ? 1 : 0, 1);
                String[] arguments = found && !named.group(1).isEmpty() ? named.group(1).split(", ") : new String[0];
                due.is("README: arguments of " + m.getName(), arguments.length, m.getParameterCount());
            }
        }
    }

    /** Each line of the table stands in a text that has enough people and wishes. */
    private static void linesAreTaken(String page) {
        StringBuilder names = new StringBuilder();
        Matcher rows = LINE_TOLD.matcher(page);
        while (rows.find()) {
            for (String line : rows.group(1).replace("`", "").split("(?<=;) ")) {
                int lines = Due.tell(new WishClerk(), "one dead;one dead;one dead;one dead;wish 0 0;wish 0 0;wish 0 0;" + line);
                due.is("README: a line: " + line, lines, 8);
                names.append(line).append('\n');
            }
        }
        for (String name : new String[] {"one alive", "one dead", "one barred", "wish", "needs", "clash", "list", "depth", "plan"}) {
            due.is("README: tells the line " + name, names.indexOf(name) < 0 ? 0 : 1, 1);
        }
    }

    private static void everyTestIsNamed(String page, Path root) throws IOException {
        try (Stream<Path> files = Files.list(root.resolve("src/test/java"))) {
            files.map(f -> f.getFileName().toString()).filter(f -> f.endsWith("Test.java")).forEach(f -> {
                String name = f.replace(".java", "");
                due.is("README: names " + name, page.contains("`" + name + "`") ? 1 : 0, 1);
            });
        }
        due.is("README: names .ci/run", page.contains("    .ci/run\n") ? 1 : 0, 1);
    }
}
