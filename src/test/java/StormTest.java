import java.lang.reflect.Method;
import java.lang.reflect.Modifier;
import java.util.Arrays;
import java.util.Comparator;

/** LANGUAGE.md's rule 7: every call by all combinations of far and near arguments, in several states, beside the model. */
public final class StormTest {
    private static final int[] VALUES = {Integer.MIN_VALUE, -2, -1, 0, 1, 2, 8, Integer.MAX_VALUE};
    private static final String[] TEXTS = {
        "",
        "sea 5 5;boat 30 1 1 0;",
        "sea 5 40 mud;boat 30 1 1 0;boat 1 30 9 20;boat 9 9 0 5;hand 0 150 60;hand 0 20 1;hand 1 70 1;hand 2 80 9;hand 0 90 9;hand 0 91 9;",
        "sea 30 0;" + "boat 30 1 3 10;".repeat(6) + "hand 0 90 1;".repeat(4) + "hand 2 80 2;".repeat(4) + "hand 5 70 3;".repeat(4)};

    // an object is promised for 512 calls: one storm's call, and status() behind it, are two
    private static final int MOST_CALLS = 220;

    private static OverInDinghy x;
    private static Model y;
    private static int calls;

    public static void main(String[] args) throws Exception {
        Method[] face = OverInDinghy.class.getDeclaredMethods();
        Arrays.sort(face, Comparator.comparing(Method::getName));
        for (String text : TEXTS) {
            for (Method m : face) {
                if (Modifier.isPublic(m.getModifiers())) {
                    Method model = Model.class.getDeclaredMethod(m.getName(), m.getParameterTypes());
                    begin(text);
                    storm(text, m, model, new Object[m.getParameterCount()], 0);
                }
            }
        }
        Check.end();
    }

    private static void begin(String text) {
        calls = 0;
        x = new OverInDinghy();
        y = new Model();
        Check.feed(x, text);
        for (int i = 0; i < text.length(); i++) {
            y.feed(text.charAt(i), 1);
        }
        Check.due("club() of " + text, x.club(), y.club());
        for (int i = 0; i < 5; i++) {
            int row = i == 4 ? 7 : i;
            Check.due("row", x.row(row, i % 3, 4 * i), y.row(row, i % 3, 4 * i));
        }
        Check.due("tip", x.tip(0), y.tip(0));
        Check.due("tip", x.tip(2), y.tip(2));
        Check.due("go", x.go(3, 7), y.go(3, 7));
        Check.due("image", x.image(1), y.image(1));
        Check.due("ask", x.ask(0, 0), y.ask(0, 0));
        Check.due("feed", x.feed('s', 1), y.feed('s', 1));
    }

    private static void storm(String text, Method m, Method model, Object[] given, int next) throws Exception {
        if (next == given.length) {
            calls++;
            if (calls > MOST_CALLS) {
                begin(text);
            }
            String call = m.getName() + Arrays.toString(given);
            Check.due(call, ((Number) m.invoke(x, given)).longValue(), ((Number) model.invoke(y, given)).longValue());
            Check.due("status() behind " + call, x.status(), y.status());
            return;
        }
        for (int value : VALUES) {
            given[next] = value;
            if (m.getParameterTypes()[next] == long.class) {
                given[next] = (long) value << 32 | value & 0xffffffffL;
            }
            storm(text, m, model, given, next + 1);
        }
    }
}
