import java.lang.reflect.InvocationTargetException;
import java.lang.reflect.Method;
import java.lang.reflect.Modifier;
import java.nio.file.Files;
import java.nio.file.Path;
import java.util.List;
import java.util.regex.Matcher;
import java.util.regex.Pattern;

/** Does the examples of README.md, line by line, and looks at what is said behind each call. */
public final class ReadmeTests {
    private static final Pattern NEW = Pattern.compile("ParishYards yards = new ParishYards\\(\\);");
    private static final Pattern CALL = Pattern.compile("yards\\.(\\w+)\\(([-\\d, ]*)\\); +// (throws \\w+|[-\\w.]+)(:.*)?");
    private static final Pattern TYPED = Pattern.compile("for \\(char sign : \"([^\"]*)\"\\.toCharArray\\(\\)\\) \\{");
    private static final List<String> BODY_OF_TYPED = List.of("    yards.append(sign);", "}");

    private static ParishYards yards;
    private static int passed = 0;
    private static int failed = 0;

    public static void main(String[] args) throws Exception {
        List<String> lines = Files.readAllLines(Path.of(args[2]));
        boolean inExample = false;
        for (String line : lines) {
            if (line.startsWith("```")) {
                inExample = line.equals("```java");
            } else if (inExample) {
                example(line);
            }
        }
        namesEachCall(String.join("\n", lines));
        System.out.println("ReadmeTests: " + passed + " passed, " + failed + " failed");
        if (failed != 0 || passed == 0) {
            System.exit(1);
        }
    }

    private static void example(String line) throws Exception {
        Matcher call = CALL.matcher(line);
        Matcher typed = TYPED.matcher(line);
        if (NEW.matcher(line).matches()) {
            yards = new ParishYards();
        } else if (call.matches()) {
            due(line, answer(call.group(1), call.group(2)), call.group(3));
        } else if (typed.matches()) {
            typed.group(1).chars().forEach(yards::append);
        } else if (!BODY_OF_TYPED.contains(line)) {
            due(line, "a line that is no call", "a call with its answer");
        }
    }

    private static String answer(String name, String arguments) throws Exception {
        String[] texts = arguments.isEmpty() ? new String[0] : arguments.split(", ");
        Object[] values = new Object[texts.length];
        Class<?>[] types = new Class<?>[texts.length];
        for (int i = 0; i < texts.length; i++) {
            values[i] = Integer.valueOf(texts[i]);
            types[i] = int.class;
        }
        try {
            Object answered = ParishYards.class.getMethod(name, types).invoke(yards, values);
            return answered.equals(ParishYards.NONE) ? "NONE" : answered.toString();
        } catch (InvocationTargetException e) {
            return "throws " + e.getCause().getClass().getSimpleName();
        }
    }

    private static void namesEachCall(String text) {
        for (Method method : ParishYards.class.getDeclaredMethods()) {
            if (Modifier.isPublic(method.getModifiers())) {
                boolean named = Pattern.compile("`" + method.getName() + "[`(]").matcher(text).find();
                due("README.md", (named ? "names " : "does not name ") + method.getName(), "names " + method.getName());
            }
        }
    }

    private static void due(String line, String got, String want) {
        if (got.equals(want)) {
            passed++;
        } else {
            failed++;
            System.out.println(line + " -- is " + got + ", due is " + want);
        }
    }
}
