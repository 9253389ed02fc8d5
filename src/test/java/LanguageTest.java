import java.io.IOException;
import java.lang.reflect.Constructor;
import java.lang.reflect.Executable;
import java.lang.reflect.Field;
import java.lang.reflect.Method;
import java.lang.reflect.Modifier;
import java.nio.file.Files;
import java.nio.file.Path;
import java.util.ArrayList;
import java.util.List;
import java.util.Random;
import java.util.regex.Matcher;
import java.util.regex.Pattern;

/**
 * Rules of LANGUAGE.md that can be seen in the class's text, in its members,
 * or by calling it. Where the class does with less than a rule allows (it
 * throws and catches nothing, and makes objects in constructors alone), the
 * narrower thing is tested: it is what the README says.
 */
public final class LanguageTest {
    private static final Path SOURCE = Path.of("src/main/java/VersionRows.java");
    private static final Pattern COMMENT = Pattern.compile("/\\*.*?\\*/|//[^\\n]*", Pattern.DOTALL);
    private static final Pattern NOT_ALLOWED = Pattern.compile(
            "\\b(package|import|throws?|try|catch|finally|synchronized|assert|double|float|native|transient|volatile"
            + "|equals|hashCode|toString|System|Thread|Random|Object|\\w+Exact)\\b|->|::");
    private static final Pattern MADE = Pattern.compile("\\bnew\\b");
    // A field's own row, or a part of the object in its constructor.
    private static final Pattern MADE_ONCE = Pattern.compile(
            "\\s+private final \\w+(\\[\\])? \\w+ = new [^;]+;|        \\w+ = new \\w+\\(\\);");
    private static final Pattern METHOD = Pattern.compile("( +)[\\w ]+(\\[\\])? \\w+\\([^;]*\\) \\{");
    private static final int MOST_LINES = 60;
    private static final int MOST_PARAMETERS = 7;
    private static final int MOST_CLASSES = 12;
    private static final int MOST_FIELDS = 20;
    private static final long[] LONGS = {
        Long.MIN_VALUE, Long.MIN_VALUE + 1, Integer.MIN_VALUE, -1, 0, 1, 2, 3, 63, 64, 65, 200, 201,
        Integer.MAX_VALUE, 2147483648L, 4294967296L, Long.MAX_VALUE - 1, Long.MAX_VALUE};

    private static int acts = 0;
    private static int wrong = 0;

    public static void main(String[] args) throws IOException {
        String[] lines = withoutComments(Files.readString(SOURCE)).split("\n");
        words(lines);
        objectsMade(lines);
        lengthOfMethods(lines);
        members();
        callsOfAnyKind();
        System.out.println(wrong == 0 ? "LanguageTest: the rules are kept" : "LanguageTest: " + wrong + " wrong");
        if (wrong != 0) {
            System.exit(1);
        }
    }

    private static void tell(String what) {
        wrong++;
        System.out.println(what);
    }

    // Lines stay lines, so that their numbers are those of the file.
    private static String withoutComments(String text) {
        return COMMENT.matcher(text).replaceAll(m -> m.group().replaceAll("[^\\n]", ""));
    }

    private static void words(String[] lines) {
        for (int i = 0; i < lines.length; i++) {
            Matcher m = NOT_ALLOWED.matcher(lines[i]);
            if (m.find()) {
                tell("line " + (i + 1) + " has " + m.group());
            }
        }
    }

    private static void objectsMade(String[] lines) {
        for (int i = 0; i < lines.length; i++) {
            if (MADE.matcher(lines[i]).find() && !MADE_ONCE.matcher(lines[i]).matches()) {
                tell("rule 12: line " + (i + 1) + " makes an object outside of a constructor");
            }
        }
    }

    private static void lengthOfMethods(String[] lines) {
        int methods = 0;
        for (int first = 0; first < lines.length; first++) {
            Matcher m = METHOD.matcher(lines[first]);
            if (m.matches() && !lines[first].contains(" new ")) {
                methods++;
                int last = first;
                while (last < lines.length && !lines[last].equals(m.group(1) + "}")) {
                    last++;
                }
                if (last - first + 1 > MOST_LINES) {
                    tell("rule 11: the method of line " + (first + 1) + " is too long");
                }
            }
        }
        if (methods < VersionRows.class.getMethods().length - Object.class.getMethods().length) {
            tell("rule 11: only " + methods + " methods were seen");
        }
    }

    private static void members() {
        List<Class<?>> classes = new ArrayList<>(List.of(VersionRows.class.getDeclaredClasses()));
        classes.add(VersionRows.class);
        if (classes.size() > MOST_CLASSES) {
            tell("rule 11: " + classes.size() + " classes");
        }
        for (Class<?> c : classes) {
            fields(c);
            for (Method m : c.getDeclaredMethods()) {
                parameters(m);
            }
            for (Constructor<?> made : c.getDeclaredConstructors()) {
                parameters(made);
            }
        }
    }

    private static void parameters(Executable e) {
        if (e.getParameterCount() > MOST_PARAMETERS) {
            tell("rule 11: " + e + " has too many parameters");
        }
        if (e.getExceptionTypes().length != 0) {
            tell("rule 6: " + e + " says that it throws");
        }
    }

    private static void fields(Class<?> c) {
        int count = 0;
        for (Field f : c.getDeclaredFields()) {
            if (!Modifier.isStatic(f.getModifiers())) {
                count++;
            } else if (!Modifier.isFinal(f.getModifiers()) || !f.getType().isPrimitive()) {
                tell("rule 5: " + f + " is no constant");
            }
        }
        if (count > MOST_FIELDS) {
            tell("rule 11: " + c + " has " + count + " fields");
        }
    }

    // Rule 7 holds in any state, so behind the 512th call too, where the answers are free.
    private static void callsOfAnyKind() {
        for (int seed = 0; seed < 60; seed++) {
            Random random = new Random(seed);
            VersionRows x = new VersionRows();
            acts = 0;
            try {
                for (int i = 0; i < 6000; i++) {
                    call(x, random);
                }
            } catch (RuntimeException e) {
                tell("rule 7: seed " + seed + " threw " + e);
            }
            if (acts != 200) {
                tell("seed " + seed + " came to act " + acts + ", not to a full object");
            }
        }
    }

    private static void call(VersionRows x, Random random) {
        int from = number(random, 200);
        switch (random.nextInt(11)) {
            case 0 -> x.record(number(random, 4));
            case 1 -> acts = Math.max(acts,
                    x.act(number(random, 20), number(random, 8), number(random, 9), moment(random), moment(random)));
            case 2 -> x.at(number(random, 20), number(random, 8), moment(random));
            case 3 -> x.stale(number(random, 20), moment(random), number(random, 8));
            case 4 -> x.undo(number(random, 200));
            case 5 -> x.lean(number(random, 200), number(random, 200));
            // A lock till the end of time would leave no record to act on.
            case 6 -> x.lock(number(random, 20), number(random, 2), random.nextInt(99) == 0 ? moment(random) : 0);
            case 7 -> x.batch(from, random.nextBoolean() ? from : number(random, 200));
            case 8 -> x.drop(number(random, 30));
            case 9 -> x.conflict(number(random, 20), number(random, 2));
            default -> x.history(number(random, 20), number(random, 8), number(random, 20));
        }
    }

    private static int number(Random random, int greatest) {
        return random.nextInt(8) == 0 ? (int) moment(random) : random.nextInt(greatest + 1);
    }

    private static long moment(Random random) {
        return LONGS[random.nextInt(LONGS.length)];
    }
}
