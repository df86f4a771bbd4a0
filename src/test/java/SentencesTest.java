import java.lang.reflect.Constructor;
import java.lang.reflect.Field;
import java.lang.reflect.Method;
import java.lang.reflect.Modifier;
import java.util.Set;
import java.util.TreeSet;

/** The document sentence by sentence: each has a test of its own, and the public face is the one that it tells. */
public final class SentencesTest {
    public static void main(String[] args) throws Exception {
        Doc.open();
        face();
        TermsSentences.all();
        RowsSentences.all();
        TextSentences.all();
        TickSentences.all();
        ForetoldSentences.all();
        ClubSentences.all();
        Doc.end();
        Check.end();
    }

    private static void face() {
        Set<String> told = new TreeSet<>();
        for (String line : Doc.face().split("\n")) {
            String head = line.trim().replaceAll(" = .*|;$", "").replaceAll("(int|long) \\w+(?=[,)])", "$1");
            if (head.startsWith("public") && !head.endsWith("{")) {
                told.add(head);
            }
        }
        Set<String> there = new TreeSet<>();
        for (Method m : OverInDinghy.class.getDeclaredMethods()) {
            add(there, m.getModifiers(), m.getReturnType() + " " + m.getName() + types(m.getParameterTypes()));
        }
        for (Constructor<?> c : OverInDinghy.class.getDeclaredConstructors()) {
            add(there, c.getModifiers(), "OverInDinghy" + types(c.getParameterTypes()));
        }
        for (Field f : OverInDinghy.class.getDeclaredFields()) {
            add(there, f.getModifiers(), f.getType() + " " + f.getName());
        }
        Check.holds("the face is " + there + ", due is " + told, there.equals(told));
        Check.holds("public final", OverInDinghy.class.getModifiers() == (Modifier.PUBLIC | Modifier.FINAL));
    }

    private static void add(Set<String> there, int modifiers, String head) {
        if (!Modifier.isPrivate(modifiers)) {
            there.add(Modifier.toString(modifiers) + " " + head);
        }
    }

    private static String types(Class<?>[] types) {
        StringBuilder s = new StringBuilder("(");
        for (Class<?> t : types) {
            s.append(s.length() > 1 ? ", " : "").append(t);
        }
        return s.append(')').toString();
    }
}
