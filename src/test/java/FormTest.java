import java.io.IOException;
import java.lang.reflect.Field;
import java.lang.reflect.Method;
import java.lang.reflect.Modifier;
import java.nio.file.Files;
import java.nio.file.Path;
import java.util.Arrays;
import java.util.TreeSet;
import java.util.regex.Matcher;
import java.util.regex.Pattern;

/** The face as the document tells it, and what of ../shared/LANGUAGE.md can be seen in the file. */
public final class FormTest {
    private static final Check check = new Check("FormTest");

    private static final String[] FACE = {
        "int write(int)", "int wipe()", "int fault()", "int lane()", "int house(int,int)",
        "int hour()", "int bring(int,int)", "int take(int,int)", "int deed(int,int)", "int build(int)", "int undo()",
        "int later(int,int,int)", "int standing(int)", "int falls(int)", "int rings()", "int orders(int,long,int)",
        "int piano(int)", "int sacks(int)", "int judge(int,long)",
        "int see(int,int,int)", "int unsee()", "int night(int)",
        "int share(int,boolean)", "int rests(int,int,int)", "int fails(int,int,boolean)", "long seed(long)", "int years(int)",
        "int keep(int)", "int again(int)", "int count(int)",
    };

    /** What the interface says ahead of its calls, with the calls, in the document's order. */
    private static final String[][] HEADINGS = {
        {"the lane", "write", "wipe", "fault", "lane", "house"},
        {"acts", "hour", "bring", "take", "deed", "build", "undo"},
        {"hours to come", "later", "standing", "falls", "rings", "orders", "piano", "sacks", "judge"},
        {"seen", "see", "unsee", "night"},
        {"shares, rests, chances", "share", "rests", "fails", "seed", "years"},
        {"slots", "keep", "again", "count"},
    };

    /** Rules 3, 4, 6, 10, 12 and 13: none of these may stand in the code. */
    private static final String[] FORBIDDEN = {
        "\\bthrow\\b", "\\bthrows\\b", "\\btry\\b", "\\bcatch\\b", "\\bsynchronized\\b", "\\bassert\\b", "->", "::",
        "\\bimport\\b", "\\bpackage\\b", "\\bprotected\\b", "Exact\\b", "\\bThread\\b", "\\bRandom\\b", "\\bObject\\b",
        "hashCode", "toString\\(", "System\\.(?!arraycopy)", "\\bvar\\b", "while \\(true", "for \\(;;", "\"",
    };

    public static void main(String[] args) throws IOException {
        constants();
        methods();
        fields();
        nested();
        String file = Files.readString(Path.of("src/main/java/LeanLane.java"));
        source(file);
        headings(file);
        check.end();
    }

    private static void constants() {
        check.due("UNKNOWN", LeanLane.UNKNOWN, -1);
        check.due("OUTSIDE", LeanLane.OUTSIDE, -2);
        check.due("STATE", LeanLane.STATE, -3);
        check.due("FULL", LeanLane.FULL, -4);
        check.due("NONE", LeanLane.NONE, -9);
    }

    private static String told(Method method) {
        StringBuilder all = new StringBuilder();
        all.append(method.getReturnType().getName()).append(' ').append(method.getName()).append('(');
        String between = "";
        for (Class<?> type : method.getParameterTypes()) {
            all.append(between).append(type.getName());
            between = ",";
        }
        return all.append(')').toString();
    }

    private static void methods() {
        TreeSet<String> face = new TreeSet<>(Arrays.asList(FACE));
        TreeSet<String> names = new TreeSet<>();
        TreeSet<String> open = new TreeSet<>();
        for (Method method : LeanLane.class.getDeclaredMethods()) {
            if (Modifier.isPublic(method.getModifiers())) {
                open.add(told(method));
                names.add(method.getName());
            }
        }
        check.isTrue("the public methods are those of the document: " + open, open.equals(face));
        for (Method method : LeanLane.class.getDeclaredMethods()) {
            int modifiers = method.getModifiers();
            check.isTrue(method + " is public or private", Modifier.isPublic(modifiers) || Modifier.isPrivate(modifiers));
            check.isTrue(method + " has a name of its own", Modifier.isPublic(modifiers) || !names.contains(method.getName()));
            check.isTrue(method + " has seven parameters at most", method.getParameterCount() <= 7);
        }
        check.isTrue("the class is public and final", (LeanLane.class.getModifiers() & (Modifier.PUBLIC | Modifier.FINAL))
                == (Modifier.PUBLIC | Modifier.FINAL));
        check.due("constructors", LeanLane.class.getDeclaredConstructors().length, 1);
        check.due("public constructors", LeanLane.class.getConstructors().length, 1);
    }

    private static void fields() {
        int open = 0;
        int own = 0;
        for (Field field : LeanLane.class.getDeclaredFields()) {
            int modifiers = field.getModifiers();
            open += Modifier.isPublic(modifiers) ? 1 : 0;
            own += Modifier.isStatic(modifiers) ? 0 : 1;
            check.isTrue(field + " is public or private", Modifier.isPublic(modifiers) || Modifier.isPrivate(modifiers));
            check.isTrue(field + " is final if static", !Modifier.isStatic(modifiers) || Modifier.isFinal(modifiers));
        }
        check.due("public fields", open, 5);
        check.isTrue("some twenty fields", own <= 20);
    }

    private static void nested() {
        Class<?>[] inside = LeanLane.class.getDeclaredClasses();
        check.isTrue("some twelve classes", inside.length <= 12);
        for (Class<?> one : inside) {
            int modifiers = one.getModifiers();
            check.isTrue(one + " is static", Modifier.isStatic(modifiers));
            check.isTrue(one + " is not public", !Modifier.isPublic(modifiers) && !Modifier.isProtected(modifiers));
            for (Field field : one.getDeclaredFields()) {
                int of = field.getModifiers();
                check.isTrue(field + " is final if static", !Modifier.isStatic(of) || Modifier.isFinal(of));
            }
        }
    }

    private static void source(String file) {
        check.isTrue("signs up to 127", file.chars().allMatch(c -> c < 128));
        String code = file.replaceAll("(?s)/\\*.*?\\*/", " ").replaceAll("//[^\n]*", " ");
        for (String forbidden : FORBIDDEN) {
            Matcher found = Pattern.compile(forbidden).matcher(code);
            check.isTrue("no " + forbidden + " in the code", !found.find());
        }
        Matcher made = Pattern.compile("\\bnew (\\w+)").matcher(code);
        while (made.find()) {
            check.isTrue("made: " + made.group(1), made.group(1).matches("int|char|Text|Lane|Past|Sightings"));
        }
    }

    /** Each heading stands ahead of its own calls and behind those of the heading ahead of it. */
    private static void headings(String file) {
        int at = 0;
        for (String[] heading : HEADINGS) {
            int place = file.indexOf("// ---- " + heading[0] + "\n");
            check.isTrue("the heading " + heading[0] + " stands behind what is ahead of it", place > at);
            at = Math.max(at, place);
            for (int i = 1; i < heading.length; i++) {
                Matcher call = Pattern.compile("public (int|long) " + heading[i] + "\\(").matcher(file);
                boolean behind = call.find() && call.start() > at;
                check.isTrue("the call " + heading[i] + " stands behind what is ahead of it", behind);
                at = behind ? call.start() : at;
            }
        }
    }
}
