import java.lang.reflect.Method;
import java.lang.reflect.Modifier;
import java.nio.file.Files;
import java.nio.file.Path;
import java.util.regex.Matcher;
import java.util.regex.Pattern;

/** README.md: the answers that its code tells behind "//" are the ones that come, and each call is named there. */
public final class ReadmeTest {
    private static final Pattern TEXT = Pattern.compile("String text = \"(.*)\";");
    private static final Pattern CALL = Pattern.compile("x\\.(\\w+)\\(([-0-9, ]*)\\);\\s*// (-?\\d+).*");
    private static final Pattern FEED = Pattern.compile("x\\.feed\\(text\\..*");
    private static final Pattern AROUND = Pattern.compile("|\\}|for \\(.*|OverInDinghy x = new OverInDinghy\\(\\);");

    private static final OverInDinghy X = new OverInDinghy();
    private static String text = "";
    private static int called;

    public static void main(String[] args) throws Exception {
        Path source = Path.of(System.getProperty("dinghy.source", "src/main/java/OverInDinghy.java"));
        Path page = source.toAbsolutePath().resolve("../../../../README.md").normalize();
        String readme = Files.readString(page);
        Matcher block = Pattern.compile("(?s)```java\n(.*?)```").matcher(readme);
        while (block.find()) {
            for (String line : block.group(1).split("\n")) {
                follow(line.trim());
            }
        }
        Check.holds("the page has calls with answers", called > 10);
        for (Method m : OverInDinghy.class.getDeclaredMethods()) {
            boolean named = readme.contains("`" + m.getName() + "(");
            Check.holds("the page names " + m.getName(), named || !Modifier.isPublic(m.getModifiers()));
        }
        Check.end();
    }

    private static void follow(String line) throws Exception {
        Matcher told = TEXT.matcher(line);
        Matcher call = CALL.matcher(line);
        if (told.matches()) {
            text = told.group(1);
        } else if (FEED.matcher(line).matches()) {
            Check.feed(X, text);
        } else if (call.matches()) {
            called++;
            Check.due(line, answer(call.group(1), call.group(2)), Long.parseLong(call.group(3)));
        } else {
            Check.holds("a line that this test can follow: " + line, AROUND.matcher(line).matches());
        }
    }

    private static long answer(String name, String arguments) throws Exception {
        String[] told = arguments.isEmpty() ? new String[0] : arguments.split(", ");
        for (Method m : OverInDinghy.class.getDeclaredMethods()) {
            if (m.getName().equals(name) && Modifier.isPublic(m.getModifiers())) {
                Object[] values = new Object[told.length];
                for (int i = 0; i < told.length; i++) {
                    values[i] = Integer.valueOf(told[i]);
                }
                return ((Number) m.invoke(X, values)).longValue();
            }
        }
        Check.holds("there is a call " + name, false);
        return 0;
    }
}
