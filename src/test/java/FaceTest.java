import java.lang.reflect.Constructor;
import java.lang.reflect.Field;
import java.lang.reflect.Member;
import java.lang.reflect.Method;
import java.lang.reflect.Modifier;
import java.util.Arrays;
import java.util.Set;
import java.util.TreeSet;

/** The face of the document, and rule 1 of LANGUAGE.md: all of it, and nothing more. */
public final class FaceTest {
    private static final Set<String> FACE = new TreeSet<>(Arrays.asList(
            "public static final int NONE",
            "public VersionRows()",
            "public int record(int)",
            "public int act(int, int, long, long, long)",
            "public int at(int, int, long)",
            "public int stale(int, long, int)",
            "public int undo(int)",
            "public int lean(int, int)",
            "public int lock(int, int, long)",
            "public int batch(int, int)",
            "public int drop(int)",
            "public int conflict(int, int)",
            "public int history(int, int, int)"));

    public static void main(String[] args) {
        Set<String> wrong = new TreeSet<>();
        Set<String> found = new TreeSet<>();
        collect(found, wrong);
        for (String member : FACE) {
            if (!found.contains(member)) {
                wrong.add("missing: " + member);
            }
        }
        for (String member : found) {
            if (!FACE.contains(member)) {
                wrong.add("not of the face: " + member);
            }
        }
        if (!Modifier.isFinal(VersionRows.class.getModifiers()) || !Modifier.isPublic(VersionRows.class.getModifiers())) {
            wrong.add("the class is not public and final");
        }
        if (VersionRows.NONE != -1) {
            wrong.add("NONE is not -1");
        }
        wrong.forEach(System.out::println);
        System.out.println(wrong.isEmpty() ? "FaceTest: the face is as due" : "FaceTest: " + wrong.size() + " wrong");
        if (!wrong.isEmpty()) {
            System.exit(1);
        }
    }

    private static void collect(Set<String> found, Set<String> wrong) {
        Set<String> publicNames = new TreeSet<>();
        for (Method m : VersionRows.class.getMethods()) {
            publicNames.add(m.getName());
        }
        for (Method m : VersionRows.class.getDeclaredMethods()) {
            if (isSeen(m)) {
                found.add(words(m) + m.getReturnType().getName() + " " + m.getName() + types(m.getParameterTypes()));
            } else if (publicNames.contains(m.getName())) {
                wrong.add("a private method with a public name: " + m.getName());
            }
        }
        for (Constructor<?> c : VersionRows.class.getDeclaredConstructors()) {
            if (isSeen(c)) {
                found.add(words(c) + "VersionRows" + types(c.getParameterTypes()));
            }
        }
        for (Field f : VersionRows.class.getDeclaredFields()) {
            if (isSeen(f)) {
                found.add(words(f) + f.getType() + " " + f.getName());
            } else if (Modifier.isStatic(f.getModifiers()) && !Modifier.isFinal(f.getModifiers())) {
                wrong.add("static state: " + f.getName());
            }
        }
        for (Class<?> c : VersionRows.class.getDeclaredClasses()) {
            if (!Modifier.isStatic(c.getModifiers()) || Modifier.isPublic(c.getModifiers())) {
                wrong.add("a class inside that is public or not static: " + c.getName());
            }
        }
    }

    private static boolean isSeen(Member m) {
        return !Modifier.isPrivate(m.getModifiers()) && !m.isSynthetic();
    }

    private static String words(Member m) {
        String words = Modifier.toString(m.getModifiers());
        return words.isEmpty() ? "" : words + " ";
    }

    private static String types(Class<?>[] types) {
        StringBuilder text = new StringBuilder("(");
        for (Class<?> type : types) {
            text.append(text.length() > 1 ? ", " : "").append(type.getName());
        }
        return text.append(")").toString();
    }
}
