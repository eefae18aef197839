import java.io.IOException;
import java.lang.reflect.Method;
import java.nio.file.Files;
import java.nio.file.Path;
import java.util.List;
import java.util.regex.Matcher;
import java.util.regex.Pattern;

/** The run of calls in README.md, and its numbers of the errors, as the class gives them. */
public final class ReadmeTest {
    private static final Pattern CALL = Pattern.compile("    x\\.(\\w+)\\((.*)\\); +// (-?\\w+)(:.*)?");
    private static final Pattern CODE = Pattern.compile("- `(\\w+)` \\((-\\d+)\\): .*");
    private static final Pattern PACKED = Pattern.compile("packed\\(\"(.*)\"\\)");

    private static int wrong = 0;
    private static int calls = 0;
    private static int codes = 0;

    public static void main(String[] args) throws Exception {
        List<String> lines = Files.readAllLines(readme());
        HungStops x = new HungStops();
        for (String line : lines) {
            Matcher call = CALL.matcher(line);
            Matcher code = CODE.matcher(line);
            if (call.matches()) checkCall(x, call);
            else if (line.startsWith("    x.")) due("lines with a call and no answer: " + line, 1, 0);
            if (code.matches()) checkCode(code);
        }
        if (calls == 0) due("calls", 0, 1);
        due("error codes and NONE", codes, 6);
        System.out.println(wrong == 0 ? "README.md tells " + calls + " calls as they are" : wrong + " things in README.md are wrong");
        if (wrong != 0) System.exit(1);
    }

    private static Path readme() throws IOException {
        Path path = Path.of("README.md");
        if (!Files.exists(path)) throw new IOException("README.md is not in " + Path.of("").toAbsolutePath());
        return path;
    }

    private static void due(String what, long got, long want) {
        if (got == want) return;
        wrong++;
        System.out.println(what + ": told " + want + ", but is " + got);
    }

    private static void checkCall(HungStops x, Matcher call) throws Exception {
        calls++;
        String[] arguments = call.group(2).isEmpty() ? new String[0] : call.group(2).split(", ");
        Method method = methodNamed(call.group(1));
        Object[] values = new Object[arguments.length];
        for (int at = 0; at < values.length; at++) {
            // Not by ?:, which would make a long of both.
            if (method.getParameterTypes()[at] == long.class) values[at] = packed(arguments[at]);
            else values[at] = number(arguments[at].replace("HungStops.", ""));
        }
        due(call.group().strip(), (Integer) method.invoke(x, values), number(call.group(3)));
    }

    private static void checkCode(Matcher code) throws Exception {
        codes++;
        due(code.group(1), number(code.group(1)), Integer.parseInt(code.group(2)));
    }

    private static Method methodNamed(String name) {
        for (Method method : HungStops.class.getMethods()) {
            if (method.getName().equals(name) && method.getDeclaringClass() == HungStops.class) return method;
        }
        throw new IllegalStateException("no method " + name);
    }

    private static int number(String text) throws Exception {
        return text.matches("-?\\d+") ? Integer.parseInt(text) : HungStops.class.getField(text).getInt(null);
    }

    private static long packed(String argument) {
        Matcher text = PACKED.matcher(argument);
        if (!text.matches()) throw new IllegalStateException("not packed: " + argument);
        long number = 0;
        for (char sign : text.group(1).toCharArray()) number = number << 8 | sign;
        return number;
    }
}
