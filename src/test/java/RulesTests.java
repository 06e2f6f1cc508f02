import java.lang.reflect.Executable;
import java.lang.reflect.Field;
import java.lang.reflect.Method;
import java.lang.reflect.Modifier;
import java.nio.file.Files;
import java.nio.file.Path;
import java.util.ArrayList;
import java.util.Collections;
import java.util.List;
import java.util.TreeSet;
import java.util.regex.Matcher;
import java.util.regex.Pattern;

/** The face of the class, and those rules of LANGUAGE.md that a plain look at the source can test. */
public final class RulesTests {
    private static final String[] FACE = {
        "append(int) IllegalArgumentException IllegalStateException",
        "bestWay(int, int, int) IndexOutOfBoundsException IllegalArgumentException",
        "bolt(int, int) IndexOutOfBoundsException IllegalArgumentException IllegalStateException",
        "boltOf(int, int) IndexOutOfBoundsException IllegalArgumentException",
        "clearBuffer()",
        "count(int) IllegalArgumentException",
        "digest()",
        "drop(int, int) IndexOutOfBoundsException IllegalStateException",
        "firstError()",
        "keep()",
        "mends(int, int, int) IndexOutOfBoundsException IllegalArgumentException",
        "offBy(int, int, int, int) IndexOutOfBoundsException IllegalArgumentException",
        "restore() IllegalStateException",
        "ring(int, int) IllegalArgumentException",
        "sell(int) IndexOutOfBoundsException",
        "send(int, int) IndexOutOfBoundsException IllegalStateException",
        "set(int, int) IndexOutOfBoundsException IllegalArgumentException",
        "stick(int, int) IndexOutOfBoundsException IllegalArgumentException",
        "stopped(int) IllegalArgumentException",
        "table(int, int, int, int) IndexOutOfBoundsException IllegalArgumentException IllegalStateException",
        "tableOf(int, int, int) IndexOutOfBoundsException IllegalArgumentException",
        "trueShare()",
        "turned(int, int, int) IndexOutOfBoundsException IllegalArgumentException",
        "undo() IllegalStateException",
        "work() IllegalArgumentException"
    };

    /** What the language leaves out, or what this class does without. */
    private static final String[] BANNED = {
        "\\bimport\\b", "\\bpackage\\b", "->", "::", "\\btry\\b", "\\bcatch\\b", "\\bfinally\\b", "\\bassert\\b",
        "\\bsynchronized\\b", "\\binstanceof\\b", "\\brecord\\b", "\\bvar\\b", "\\bprotected\\b", "\\bgoto\\b",
        "Exact\\(", "\\bSystem\\b", "\\bDouble\\b", "\\bObject\\b", "\\bThread\\b", "\\bhashCode\\b",
        "\\bequals\\b", "\\btoString\\b", "static \\{", "@"
    };

    private static int failed = 0;
    private static int passed = 0;

    public static void main(String[] args) throws Exception {
        face();
        source(Files.readString(Path.of(args[0])));
        System.out.println("RulesTests: " + passed + " passed, " + failed + " failed");
        if (failed != 0) {
            System.exit(1);
        }
    }

    private static void due(String what, boolean holds) {
        if (holds) {
            passed++;
        } else {
            failed++;
            System.out.println(what);
        }
    }

    private static String told(Executable call) {
        List<String> types = new ArrayList<>();
        for (Class<?> type : call.getParameterTypes()) {
            types.add(type.getSimpleName());
        }
        StringBuilder text = new StringBuilder(call.getName());
        text.append('(').append(String.join(", ", types)).append(')');
        for (Class<?> type : call.getExceptionTypes()) {
            text.append(' ').append(type.getSimpleName());
        }
        return text.toString();
    }

    private static void face() {
        List<String> calls = new ArrayList<>();
        TreeSet<String> publicNames = new TreeSet<>();
        TreeSet<String> privateNames = new TreeSet<>();
        for (Method method : ParishYards.class.getDeclaredMethods()) {
            if (Modifier.isPublic(method.getModifiers())) {
                calls.add(told(method));
                publicNames.add(method.getName());
                String type = method.getReturnType().getSimpleName();
                String want = method.getName().equals("digest") ? "long"
                        : method.getName().equals("trueShare") ? "double" : "int";
                due(method + " returns another type", type.equals(want));
            } else {
                privateNames.add(method.getName());
                due(method + " is not private", Modifier.isPrivate(method.getModifiers()));
            }
        }
        for (Class<?> inside : ParishYards.class.getDeclaredClasses()) {
            due(inside + " is not static, or open", Modifier.isStatic(inside.getModifiers())
                    && !Modifier.isPublic(inside.getModifiers()) && !Modifier.isProtected(inside.getModifiers()));
            for (Method method : inside.getDeclaredMethods()) {
                if (Modifier.isPrivate(method.getModifiers())) {
                    privateNames.add(method.getName());
                }
            }
        }
        Collections.sort(calls);
        due("the face is " + calls, calls.equals(List.of(FACE)));
        privateNames.retainAll(publicNames);
        due("private methods bear the names " + privateNames, privateNames.isEmpty());
        for (Field field : ParishYards.class.getDeclaredFields()) {
            due(field + " is not private", Modifier.isPrivate(field.getModifiers()) || field.getName().equals("NONE"));
        }
        due("one public constructor", ParishYards.class.getDeclaredConstructors().length == 1
                && ParishYards.class.getConstructors().length == 1);
        due("a public final class", Modifier.isPublic(ParishYards.class.getModifiers())
                && Modifier.isFinal(ParishYards.class.getModifiers()));
        due("some twelve classes", ParishYards.class.getDeclaredClasses().length <= 11);
    }

    private static void source(String text) {
        String code = text.replaceAll("(?s)/\\*.*?\\*/", "").replaceAll("//[^\n]*", "");
        for (String banned : BANNED) {
            Matcher matcher = Pattern.compile(banned).matcher(code.replaceAll("\"[^\"\n]*\"|'[^'\n]+'", ""));
            due("the source has " + banned, !matcher.find());
        }
        due("signs 1 to 127 alone", text.chars().allMatch(c -> c < 128));
        Matcher index = Pattern.compile("\\w+\\[[^\\]]+\\](?! *\\{)").matcher(code);
        while (index.find()) {
            boolean known = index.group().startsWith("int[") || index.group().startsWith("long[")
                    || index.group().startsWith("Yards[") || index.group().matches("row\\[place\\]|(to|from)\\[i\\]"
                    + "|ups\\[place\\]|saved\\[.*\\]");
            due("an index outside of at() and put(): " + index.group(), known);
        }
    }
}
