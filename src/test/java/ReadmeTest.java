import java.io.IOException;
import java.lang.reflect.Method;
import java.nio.file.Files;
import java.nio.file.Path;
import java.util.List;
import java.util.Set;
import java.util.TreeSet;
import java.util.regex.Matcher;
import java.util.regex.Pattern;

/** The run of calls in README.md answers what stands beside each call, and uses the whole face. */
public final class ReadmeTest {
    private static final String MADE = "SignBoards x = new SignBoards();";
    private static final Pattern TEXT =
        Pattern.compile("for \\(char c : \"([^\"]+)\"\\.toCharArray\\(\\)\\) x\\.unit\\(c\\);");
    private static final Pattern CALL =
        Pattern.compile("x\\.(\\w+)\\(([^)]*)\\); +// (true|false|-?\\d+)(?:: | |$).*");

    private static final Check CHECK = new Check();

    public static void main(String[] args) throws IOException, ReflectiveOperationException {
        SignBoards x = new SignBoards();
        Set<String> unused = new TreeSet<>();
        for (Method each : faceMethods()) {
            unused.add(each.getName());
        }
        for (String line : sample()) {
            Matcher text = TEXT.matcher(line);
            Matcher call = CALL.matcher(line);
            if (text.matches()) {
                Check.collect(x, text.group(1));
                unused.remove("unit");
            } else if (call.matches()) {
                CHECK.due(line, answer(x, call.group(1), call.group(2)), call.group(3));
                unused.remove(call.group(1));
            } else {
                CHECK.due("a line of README.md", line, MADE);
            }
        }
        CHECK.due("methods that README.md does not use", unused.toString(), "[]");
        CHECK.finish();
    }

    private static List<String> sample() throws IOException {
        List<String> lines = Files.readAllLines(Path.of("README.md"));
        int begin = lines.indexOf("```java") + 1;
        List<String> rest = lines.subList(begin, lines.size());
        return rest.subList(0, rest.indexOf("```"));
    }

    private static List<Method> faceMethods() {
        return List.of(SignBoards.class.getMethods()).stream()
            .filter(method -> method.getDeclaringClass() == SignBoards.class).toList();
    }

    private static String answer(SignBoards x, String name, String arguments) throws ReflectiveOperationException {
        String[] told = arguments.isEmpty() ? new String[0] : arguments.split(", ");
        Object[] values = new Object[told.length];
        for (int i = 0; i < told.length; i++) {
            values[i] = told[i].startsWith("'") ? (int) told[i].charAt(1) : Integer.parseInt(told[i]);
        }
        for (Method each : faceMethods()) {
            if (each.getName().equals(name) && each.getParameterCount() == values.length) {
                return each.invoke(x, values).toString();
            }
        }
        return "no such method";
    }
}
