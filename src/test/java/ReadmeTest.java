import java.lang.reflect.Method;
import java.lang.reflect.Modifier;
import java.nio.file.Files;
import java.nio.file.Path;
import java.util.List;
import java.util.regex.Matcher;
import java.util.regex.Pattern;

/** Every call that README.md shows gives the answer that stands behind it, and its rules can be read. */
public final class ReadmeTest {
    private static final Pattern CALL = Pattern.compile("x\\.(\\w+)\\(([^)]*)\\);\\s+// (-?\\d+|true|false)\\b.*");
    private static final Check c = new Check("ReadmeTest");
    private static GoldenRows x = new GoldenRows();
    private static int shown;

    public static void main(String[] args) throws Exception {
        List<String> lines = Files.readAllLines(Path.of(System.getProperty("readme", "README.md")));
        String block = "";
        StringBuilder rules = new StringBuilder();
        for (String line : lines) {
            if (line.startsWith("```")) {
                block = line.substring(3);
            } else if (block.equals("java")) {
                run(line);
            } else if (block.equals("text")) {
                rules.append(line, 0, line.indexOf(';') + 1);
            }
        }
        c.due("calls shown", true, shown >= 30);
        c.due("the rules " + rules, 3, Check.rules(new GoldenRows(), rules.toString()));
        everyCallIsTold(lines);
        c.close();
    }

    private static void run(String line) throws Exception {
        if (line.equals("GoldenRows x = new GoldenRows();")) {
            x = new GoldenRows();
            return;
        }
        Matcher call = CALL.matcher(line);
        c.due("a call with its answer: " + line, true, call.matches());
        if (call.matches()) {
            shown++;
            Object answer = answerOf(call.group(1), call.group(2).isBlank() ? new String[0] : call.group(2).split(", *"));
            c.due(line + " answered " + answer, true, call.group(3).equals(String.valueOf(answer)));
        }
    }

    private static Object answerOf(String name, String[] args) throws Exception {
        for (Method m : GoldenRows.class.getMethods()) {
            if (m.getName().equals(name) && m.getParameterCount() == args.length) {
                Object[] given = new Object[args.length];
                for (int i = 0; i < args.length; i++) {
                    boolean isBoolean = m.getParameterTypes()[i] == boolean.class;
                    given[i] = isBoolean ? (Object) Boolean.valueOf(args[i]) : (Object) Integer.decode(args[i]);
                }
                return m.invoke(x, given);
            }
        }
        return "nothing";
    }

    private static void everyCallIsTold(List<String> lines) {
        String text = String.join("\n", lines);
        for (Method m : GoldenRows.class.getDeclaredMethods()) {
            if (Modifier.isPublic(m.getModifiers())) {
                c.due("README.md tells of " + m.getName(), true, text.contains("`" + m.getName() + "`"));
            }
        }
    }
}
