import java.lang.reflect.InvocationTargetException;
import java.lang.reflect.Method;
import java.nio.file.Files;
import java.nio.file.Path;
import java.util.ArrayList;
import java.util.Collections;
import java.util.LinkedHashMap;
import java.util.List;
import java.util.Map;

/**
 * Runs the tests that are each named by a sentence of the document (of the files *Sentences), and looks at
 * the names: a sentence that is named has to stand in its section, and what of a section no test names has to
 * be told below as a sentence without a case. The arguments are the paths of the program and of the document.
 */
public final class SentenceTests extends Checks {
    private static final Class<?>[] FILES = {
        TermSentences.class, TableSentences.class, BoltSentences.class, TextSentences.class,
        UndoSentences.class, LookSentences.class, WouldSentences.class
    };

    /** Titles of the document that bear no sign of a title. */
    private static final List<String> BARE_TITLES = List.of("Parishes, tables", "Undo, the snapshot");

    /** Told by RulesTests (the face), or of nothing that a call shows. */
    private static final List<String> OTHER_SECTIONS = List.of("ParishYards", "The public face", "Not promised");

    /** What names no case: a section, and how the sentence begins (it goes on to the end of its line). */
    private static final String[][] WITHOUT_A_CASE = {
        {"What it is", "Yardsticks of five parishes, and the tables"},
        {"What it is", "; what later calls answer is free."},
        {"Exceptions", "The constants:"},
        {"Exceptions", "Ahead of the calls `stick`"},
        {"Exceptions", "Ahead of the calls `bolt`"},
        {"Exceptions", "Ahead of the calls `append`"},
        {"Exceptions", "Ahead of the calls `undo`"},
        {"Exceptions", "Ahead of the calls `tableOf`"},
        {"Exceptions", "Ahead of the calls `offBy`"},
    };

    private static final List<Named> tests = new ArrayList<>();
    private static final Map<String, String> sections = new LinkedHashMap<>();

    /** A test with its name, and where the name stands in the document. */
    private static final class Named implements Comparable<Named> {
        final String section;
        final String sentence;
        final Method method;
        final int place;

        Named(String section, String sentence, Method method) {
            this.section = section;
            this.sentence = sentence;
            this.method = method;
            int order = new ArrayList<>(sections.keySet()).indexOf(section);
            this.place = order * 100000 + sections.getOrDefault(section, "").indexOf(sentence);
        }

        @Override
        public int compareTo(Named other) {
            return place != other.place ? place - other.place : method.getName().compareTo(other.method.getName());
        }
    }

    public static void main(String[] args) throws Exception {
        readSections(Files.readAllLines(Path.of(args[1])));
        findTests();
        int failed = 0;
        for (Named test : tests) {
            if (!passes(test)) {
                failed++;
                System.out.println("FAILED " + test.method.getName() + ": " + test.section + ": " + test.sentence);
            }
        }
        wrong = 0;
        namesStandInTheDocument();
        sentencesAreNamed();
        System.out.println("SentenceTests: " + (tests.size() - failed) + " passed, " + failed + " failed, "
                + wrong + " names are off");
        if (failed + wrong != 0) {
            System.exit(1);
        }
    }

    private static void readSections(List<String> lines) {
        String title = "";
        for (String line : lines) {
            if (line.startsWith("#") || BARE_TITLES.contains(line)) {
                title = line.replaceFirst("^#+ *", "");
                sections.put(title, "");
            } else {
                sections.put(title, sections.get(title) + line + "\n");
            }
        }
    }

    private static void findTests() {
        for (Class<?> file : FILES) {
            for (Class<?> part : file.getDeclaredClasses()) {
                for (Method method : part.getDeclaredMethods()) {
                    if (method.isAnnotationPresent(Says.class)) {
                        String section = part.getAnnotation(Section.class).value();
                        tests.add(new Named(section, method.getAnnotation(Says.class).value(), method));
                    }
                }
            }
        }
        Collections.sort(tests);
    }

    private static boolean passes(Named test) throws IllegalAccessException {
        wrong = 0;
        try {
            test.method.invoke(null);
        } catch (InvocationTargetException e) {
            due("no exception, but " + e.getCause(), 1, 0);
        }
        return wrong == 0;
    }

    private static void namesStandInTheDocument() {
        for (Named test : tests) {
            if (!sections.getOrDefault(test.section, "").contains(test.sentence)) {
                wrong++;
                System.out.println("not in the document, " + test.section + ": " + test.sentence);
            }
        }
    }

    private static void sentencesAreNamed() {
        for (String section : sections.keySet()) {
            String left = OTHER_SECTIONS.contains(section) ? "" : unnamed(section);
            if (left.matches("(?s).*\\w.*")) {
                wrong++;
                System.out.println("no test names, of " + section + ": " + left.trim());
            }
        }
    }

    /** What is left of a section without the face of its call, the names of tests, and what names no case. */
    private static String unnamed(String section) {
        String text = sections.get(section).replaceFirst("^\\s*`[^`]*`: ", "");
        StringBuilder left = new StringBuilder(text);
        for (Named test : tests) {
            if (test.section.equals(section)) {
                blank(left, text, test.sentence);
            }
        }
        for (String[] without : WITHOUT_A_CASE) {
            int start = text.indexOf(without[1]);
            if (without[0].equals(section) && start >= 0) {
                blank(left, text, text.substring(start, text.indexOf('\n', start)));
            }
        }
        return left.toString();
    }

    private static void blank(StringBuilder left, String text, String sentence) {
        int start = text.indexOf(sentence);
        for (int i = start; start >= 0 && i < start + sentence.length(); i++) {
            left.setCharAt(i, text.charAt(i) == '\n' ? '\n' : ' ');
        }
    }
}
