import java.io.IOException;
import java.io.InputStream;
import java.lang.reflect.Array;
import java.lang.reflect.Field;
import java.lang.reflect.Method;
import java.lang.reflect.Modifier;
import java.nio.file.Files;
import java.nio.file.Path;
import java.util.ArrayList;
import java.util.Collections;
import java.util.HashMap;
import java.util.IdentityHashMap;
import java.util.List;
import java.util.Map;
import java.util.Set;
import java.util.TreeSet;
import java.util.regex.Matcher;
import java.util.regex.Pattern;
import java.util.stream.Stream;

/** What README.md says is so. It is run from the project's folder. */
public final class ReadmeTest {
    private static final String NEW_OBJECT = "VersionRows rows = new VersionRows();";
    private static final Pattern CALL = Pattern.compile("(?:int (\\w+) = )?rows\\.(\\w+)\\(([^()]*)\\); +// (-?\\d+): \\S.*");
    private static final Pattern TABLE_ROW = Pattern.compile("\\| `(\\w+)\\(([^()]*)\\)` \\|.*\\|.*\\|");
    private static final Pattern TEST = Pattern.compile("- `(\\w+)`: .*");
    private static final Pattern ROOM = Pattern.compile("some ([\\d,]+)\\s+elements in (\\d+) objects and arrays");

    private static int wrong = 0;

    public static void main(String[] args) throws IOException, InterruptedException, ReflectiveOperationException {
        List<String> lines = Files.readAllLines(Path.of("README.md"));
        example(block(lines, "java"));
        table(lines);
        room(String.join("\n", lines));
        listOfTests(lines);
        commands(block(lines, "sh"));
        System.out.println(wrong == 0 ? "ReadmeTest: what it says is so" : "ReadmeTest: " + wrong + " wrong");
        if (wrong != 0) {
            System.exit(1);
        }
    }

    private static void tell(String what) {
        wrong++;
        System.out.println(what);
    }

    private static void due(String what, Object got, Object want) {
        if (!got.equals(want)) {
            tell(what + ": is " + got + ", due is " + want);
        }
    }

    /** The lines of all code blocks of a language. */
    private static List<String> block(List<String> lines, String language) {
        List<String> found = new ArrayList<>();
        boolean inside = false;
        for (String line : lines) {
            if (line.startsWith("```")) {
                inside = line.equals("```" + language);
            } else if (inside) {
                found.add(line);
            }
        }
        if (found.isEmpty()) {
            tell("no block of " + language);
        }
        return found;
    }

    /** The methods of the face, by name: no two of them bear the same one. */
    private static Map<String, Method> face() {
        Map<String, Method> face = new HashMap<>();
        for (Method m : VersionRows.class.getDeclaredMethods()) {
            if (Modifier.isPublic(m.getModifiers())) {
                face.put(m.getName(), m);
            }
        }
        return face;
    }

    private static void example(List<String> lines) throws ReflectiveOperationException {
        VersionRows rows = new VersionRows();
        Map<String, Integer> names = new HashMap<>();
        Set<String> called = new TreeSet<>();
        for (String line : lines) {
            Matcher m = CALL.matcher(line);
            if (m.matches()) {
                int answer = call(rows, m.group(2), m.group(3), names);
                due(line, answer, Integer.parseInt(m.group(4)));
                names.put(m.group(1) == null ? "" : m.group(1), answer);
                called.add(m.group(2));
            } else if (!line.equals(NEW_OBJECT) || !called.isEmpty()) {
                tell("no call with an answer: " + line);
            }
        }
        due("the calls that the example shows", called, new TreeSet<>(face().keySet()));
    }

    private static int call(VersionRows rows, String name, String list, Map<String, Integer> names)
            throws ReflectiveOperationException {
        Method method = face().get(name);
        String[] words = list.split(", ");
        if (method == null || method.getParameterCount() != words.length) {
            tell("no such call: " + name + "(" + list + ")");
            return Integer.MIN_VALUE;
        }
        Object[] arguments = new Object[words.length];
        for (int i = 0; i < words.length; i++) {
            Integer named = names.get(words[i]);
            arguments[i] = named == null ? Integer.valueOf(words[i]) : named;
        }
        return (Integer) method.invoke(rows, arguments);
    }

    private static void table(List<String> lines) {
        Map<String, Method> face = face();
        for (String line : lines) {
            Matcher m = TABLE_ROW.matcher(line);
            if (m.matches()) {
                Method method = face.remove(m.group(1));
                int parameters = m.group(2).split(", ").length;
                due("parameters of " + m.group(1), parameters, method == null ? -1 : method.getParameterCount());
            }
        }
        due("calls that the table leaves out", face.keySet(), Set.of());
    }

    private static void room(String text) throws ReflectiveOperationException {
        Matcher m = ROOM.matcher(text);
        if (!m.find()) {
            tell("no words on the room of an object");
            return;
        }
        long[] counted = roomOf(new VersionRows());
        long told = Long.parseLong(m.group(1).replace(",", ""));
        due("objects and arrays", counted[0], Long.parseLong(m.group(2)));
        if (Math.abs(counted[1] - told) > told / 50) {
            tell("elements: are " + counted[1] + ", told are " + told);
        }
    }

    /** How many objects and arrays there are in an object, and how many fields and elements in them. */
    private static long[] roomOf(Object whole) throws ReflectiveOperationException {
        long[] counted = new long[2];
        Set<Object> seen = Collections.newSetFromMap(new IdentityHashMap<>());
        List<Object> open = new ArrayList<>(List.of(whole));
        while (!open.isEmpty()) {
            Object part = open.remove(open.size() - 1);
            if (part == null || !seen.add(part)) {
                continue;
            }
            counted[0]++;
            if (part.getClass().isArray()) {
                counted[1] += Array.getLength(part);
                if (part instanceof Object[] parts) {
                    Collections.addAll(open, parts);
                }
            } else {
                counted[1] += openFields(part, open);
            }
        }
        return counted;
    }

    private static int openFields(Object part, List<Object> open) throws ReflectiveOperationException {
        int count = 0;
        for (Field f : part.getClass().getDeclaredFields()) {
            if (!Modifier.isStatic(f.getModifiers())) {
                count++;
                f.setAccessible(true);
                if (!f.getType().isPrimitive()) {
                    open.add(f.get(part));
                }
            }
        }
        return count;
    }

    private static void listOfTests(List<String> lines) throws IOException {
        Set<String> told = new TreeSet<>();
        for (String line : lines) {
            Matcher m = TEST.matcher(line);
            if (m.matches()) {
                told.add(m.group(1));
            }
        }
        Set<String> there = new TreeSet<>();
        try (Stream<Path> files = Files.list(Path.of("src/test/java"))) {
            files.forEach(file -> there.add(file.getFileName().toString().replace(".java", "")));
        }
        due("tests that are listed", told, there);
    }

    private static void commands(List<String> lines) throws IOException, InterruptedException {
        for (String line : lines) {
            if (line.equals(".ci/run")) {
                // It runs this test, so it can't be run by it.
                due(".ci/run can be run", Files.isExecutable(Path.of(line)), true);
            } else {
                run(line);
            }
        }
    }

    private static void run(String command) throws IOException, InterruptedException {
        Process process = new ProcessBuilder("bash", "-c", command).redirectErrorStream(true).start();
        try (InputStream said = process.getInputStream()) {
            String text = new String(said.readAllBytes());
            if (process.waitFor() != 0) {
                tell(command + " ended with " + process.exitValue() + ": " + text);
            }
        }
    }
}
