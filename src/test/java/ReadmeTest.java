import java.lang.reflect.Method;
import java.nio.file.Files;
import java.nio.file.Path;
import java.util.List;
import java.util.regex.Matcher;
import java.util.regex.Pattern;

/** The example of README.md: each call that it tells gives the answer that stands behind it. */
public final class ReadmeTest {
    private static final Check check = new Check("ReadmeTest");

    private static final Pattern MADE = Pattern.compile("LeanLane lane = new LeanLane\\(\\);");
    private static final Pattern TOLD = Pattern.compile("for \\(char letter : \"(\\w+)\"\\.toCharArray\\(\\)\\) \\{");
    private static final Pattern CALL = Pattern.compile("lane\\.(\\w+)\\(([^)]*)\\); +// (-?\\d+).*");

    private LeanLane lane;

    public static void main(String[] args) throws Exception {
        new ReadmeTest().play(Files.readAllLines(Path.of("README.md")));
        check.end();
    }

    private void play(List<String> lines) throws Exception {
        int start = lines.indexOf("```java");
        check.isTrue("there is an example", start >= 0);
        int calls = 0;
        for (int i = start + 1; start >= 0 && !lines.get(i).equals("```"); i++) {
            String line = lines.get(i);
            Matcher told = TOLD.matcher(line);
            Matcher call = CALL.matcher(line);
            if (MADE.matcher(line).matches()) {
                lane = new LeanLane();
            } else if (told.matches()) {
                Check.tell(lane, told.group(1));
            } else if (call.matches()) {
                answered(line, call);
                calls++;
            } else {
                check.isTrue("a line of the loop: " + line, line.equals("    lane.write(letter);") || line.equals("}"));
            }
        }
        check.isTrue("the example has calls", calls > 0);
    }

    private void answered(String line, Matcher call) throws Exception {
        String[] told = call.group(2).isEmpty() ? new String[0] : call.group(2).split(", ");
        Method method = named(call.group(1));
        check.due("numbers in " + line, told.length, method.getParameterCount());
        Object[] numbers = new Object[told.length];
        for (int i = 0; i < told.length; i++) {
            numbers[i] = number(told[i], method.getParameterTypes()[i]);
        }
        check.due(line, ((Number) method.invoke(lane, numbers)).longValue(), Long.parseLong(call.group(3)));
    }

    private static Method named(String name) {
        for (Method method : LeanLane.class.getMethods()) {
            if (method.getName().equals(name)) {
                return method;
            }
        }
        throw new IllegalStateException("no such call: " + name);
    }

    private static Object number(String told, Class<?> type) {
        if (type == boolean.class) {
            return Boolean.parseBoolean(told);
        }
        if (type == long.class) {
            return Long.parseLong(told.replace("L", ""));
        }
        return Integer.parseInt(told);
    }
}
