import java.lang.reflect.Executable;
import java.lang.reflect.Field;
import java.lang.reflect.Method;
import java.lang.reflect.Modifier;
import java.nio.file.Files;
import java.nio.file.Path;
import java.util.ArrayList;
import java.util.Collections;
import java.util.List;
import java.util.TreeSet;
import java.util.regex.Matcher;
import java.util.regex.Pattern;

/** The face of the class, and those rules of LANGUAGE.md that a plain look at the source can test. */
public final class RulesTests {
    private static final String[] FACE = {
        "append(int) IllegalArgumentException IllegalStateException",
        "bestWay(int, int, int) IndexOutOfBoundsException IllegalArgumentException",
        "bolt(int, int) IndexOutOfBoundsException IllegalArgumentException IllegalStateException",
        "boltOf(int, int) IndexOutOfBoundsException IllegalArgumentException",
        "clearBuffer()",
        "count(int) IllegalArgumentException",
        "digest()",
        "drop(int, int) IndexOutOfBoundsException IllegalStateException",
        "firstError()",
        "keep()",
        "mends(int, int, int) IndexOutOfBoundsException IllegalArgumentException",
        "offBy(int, int, int, int) IndexOutOfBoundsException IllegalArgumentException",
        "restore() IllegalStateException",
        "ring(int, int) IllegalArgumentException",
        "sell(int) IndexOutOfBoundsException",
        "send(int, int) IndexOutOfBoundsException IllegalStateException",
        "set(int, int) IndexOutOfBoundsException IllegalArgumentException",
        "stick(int, int) IndexOutOfBoundsException IllegalArgumentException",
        "stopped(int) IllegalArgumentException",
        "table(int, int, int, int) IndexOutOfBoundsException IllegalArgumentException IllegalStateException",
        "tableOf(int, int, int) IndexOutOfBoundsException IllegalArgumentException",
        "trueShare()",
        "turned(int, int, int) IndexOutOfBoundsException IllegalArgumentException",
        "undo() IllegalStateException",
        "work() IllegalArgumentException"
    };

    /** What the language leaves out, or what this class does without. */
    private static final String[] BANNED = {
        "\\bimport\\b", "\\bpackage\\b", "->", "::", "\\btry\\b", "\\bcatch\\b", "\\bfinally\\b", "\\bassert\\b",
        "\\bsynchronized\\b", "\\binstanceof\\b", "\\brecord\\b", "\\bvar\\b", "\\bprotected\\b", "\\bgoto\\b",
        "Exact\\(", "\\bSystem\\b", "\\bDouble\\b", "\\bObject\\b", "\\bThread\\b", "\\bhashCode\\b",
        "\\bequals\\b", "\\btoString\\b", "static \\{", "@"
    };

    private static int failed = 0;
    private static int passed = 0;

    public static void main(String[] args) throws Exception {
        face();
        fields(ParishYards.class);
        for (Class<?> inside : ParishYards.class.getDeclaredClasses()) {
            fields(inside);
        }
        String text = Files.readString(Path.of(args[0]));
        String code = text.replaceAll("(?s)/\\*.*?\\*/", "").replaceAll("//[^\n]*", "");
        due("signs 1 to 127 alone", text.chars().allMatch(c -> c > 0 && c < 128));
        source(code);
        members(code);
        System.out.println("RulesTests: " + passed + " passed, " + failed + " failed");
        if (failed != 0) {
            System.exit(1);
        }
    }

    private static void due(String what, boolean holds) {
        if (holds) {
            passed++;
        } else {
            failed++;
            System.out.println(what);
        }
    }

    private static String told(Executable call) {
        List<String> types = new ArrayList<>();
        for (Class<?> type : call.getParameterTypes()) {
            types.add(type.getSimpleName());
        }
        StringBuilder text = new StringBuilder(call.getName());
        text.append('(').append(String.join(", ", types)).append(')');
        for (Class<?> type : call.getExceptionTypes()) {
            text.append(' ').append(type.getSimpleName());
        }
        return text.toString();
    }

    private static void face() {
        List<String> calls = new ArrayList<>();
        TreeSet<String> publicNames = new TreeSet<>();
        TreeSet<String> privateNames = new TreeSet<>();
        for (Method method : ParishYards.class.getDeclaredMethods()) {
            if (Modifier.isPublic(method.getModifiers())) {
                calls.add(told(method));
                publicNames.add(method.getName());
                String type = method.getReturnType().getSimpleName();
                String want = method.getName().equals("digest") ? "long"
                        : method.getName().equals("trueShare") ? "double" : "int";
                due(method + " returns another type", type.equals(want));
            } else {
                privateNames.add(method.getName());
                due(method + " is not private", Modifier.isPrivate(method.getModifiers()));
            }
        }
        for (Class<?> inside : ParishYards.class.getDeclaredClasses()) {
            due(inside + " is not static, or open", Modifier.isStatic(inside.getModifiers())
                    && !Modifier.isPublic(inside.getModifiers()) && !Modifier.isProtected(inside.getModifiers()));
            for (Method method : inside.getDeclaredMethods()) {
                if (Modifier.isPrivate(method.getModifiers())) {
                    privateNames.add(method.getName());
                }
            }
        }
        Collections.sort(calls);
        due("the face is " + calls, calls.equals(List.of(FACE)));
        privateNames.retainAll(publicNames);
        due("private methods bear the names " + privateNames, privateNames.isEmpty());
        for (Field field : ParishYards.class.getDeclaredFields()) {
            due(field + " is not private", Modifier.isPrivate(field.getModifiers()) || field.getName().equals("NONE"));
        }
        due("one public constructor", ParishYards.class.getDeclaredConstructors().length == 1
                && ParishYards.class.getConstructors().length == 1);
        due("a public final class", Modifier.isPublic(ParishYards.class.getModifiers())
                && Modifier.isFinal(ParishYards.class.getModifiers()));
        due("some twelve classes", ParishYards.class.getDeclaredClasses().length <= 11);
    }

    /** Rules 5 and 11: what is static is a constant, and a class has some twenty fields beside these. */
    private static void fields(Class<?> part) {
        int own = 0;
        for (Field field : part.getDeclaredFields()) {
            if (Modifier.isStatic(field.getModifiers())) {
                due(field + " is no constant", Modifier.isFinal(field.getModifiers())
                        && List.of("int", "long", "int[]").contains(field.getType().getSimpleName()));
            } else {
                own++;
            }
        }
        due(part + " has " + own + " fields", own <= 20);
    }

    private static void source(String code) {
        String bare = code.replaceAll("\"[^\"\n]*\"|'[^'\n]+'", "");
        for (String banned : BANNED) {
            due("the source has " + banned, !Pattern.compile(banned).matcher(bare).find());
        }
        known("an index outside of at() and put()", bare, "\\w+\\[[^\\]]+\\](?! *\\{)", "(int|long|Yards)\\[.*\\]"
                + "|row\\[place\\]|(to|from)\\[i\\]|ups\\[place\\]|saved\\[.*\\]");
        known("a divisor that is not known", bare, "[/%]=? *[^;]*", "[/%] 10\\)*|/ inches : 0|/ \\(double\\) all|/ down"
                + "|/ \\(2L \\* down\\)|/ divisor|% b");
        known("a call of the library", bare, "\\b[A-Z]\\w*\\.\\w+\\(", "(Math\\.(max|min|abs|floorDiv)|Integer\\.bitCount)\\(");
        known("a cast", bare, "\\([\\w\\[\\]]+\\) *[\\w(]", "\\((int|long|double)\\) [\\w(]");
        known("a loop without a bound in sight", bare, "\\b(for|while|do)\\b[^{]*\\{",
                "for \\(int \\w+ = [^;]*; \\w+ (<|<=|>|>=) [^;]*; \\w+(\\+\\+|--)\\) \\{"
                + "|while \\(start < text\\.length && reason == NO_REASON\\) \\{"
                + "|while \\(i < length && at\\(codes, i\\) != \\) \\{");
        known("an exception that is not of the document", code, "\\bthrow\\b[^;]*;",
                "throw new (IndexOutOfBounds|IllegalArgument|IllegalState)Exception\\(\"[^\"]*\"\\);");
    }

    /** Whatever of the code looks like this is one of those that are known to keep the rules. */
    private static void known(String what, String code, String like, String ofThese) {
        Matcher found = Pattern.compile(like).matcher(code);
        while (found.find()) {
            due(what + ": " + found.group(), found.group().matches(ofThese));
        }
    }

    /** Rules 6, 11 and 12: of the methods of the class, and of those of each class inside it. */
    private static void members(String code) {
        Matcher inside = Pattern.compile("(?ms)^    private static final class \\w+ \\{.*?^    \\}").matcher(code);
        while (inside.find()) {
            membersAt("        ", inside.group());
        }
        membersAt("    ", inside.replaceAll(""));
    }

    private static void membersAt(String indent, String code) {
        Matcher member = Pattern.compile("(?ms)^" + indent + "(?! )(?:(?:public|private|static) )*([\\w\\[\\]]+ )?(\\w+)"
                + "\\(([^)]*)\\)[^{;]*\\{(.*?)^" + indent + "\\}").matcher(code);
        int seen = 0;
        while (member.find()) {
            seen++;
            String name = member.group(2);
            String body = member.group(4);
            boolean isConstructor = member.group(1) == null;
            due(name + " is long", body.lines().count() <= 60);
            due(name + " takes many arguments", member.group(3).split(",").length <= 7);
            due(name + " throws in a constructor", !isConstructor || !body.contains("throw"));
            due(name + " makes an object", isConstructor || !Pattern.compile("(?<!throw )\\bnew\\b").matcher(body).find());
        }
        due("members of " + code.lines().filter(line -> !line.isBlank()).findFirst().orElse(""), seen > 0);
    }
}
