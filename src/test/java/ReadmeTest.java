import java.lang.reflect.Method;
import java.nio.file.Files;
import java.nio.file.Path;
import java.util.regex.Matcher;
import java.util.regex.Pattern;

/** The answers that README.md tells are those that the class gives. */
public final class ReadmeTest {
    private static final Check check = new Check("ReadmeTest");
    private static final Pattern CALL = Pattern.compile("x\\.(\\w+)\\((.*)\\);\\s*// (-?\\d+)(:.*)?");
    private static final int EXAMPLES = 3;

    public static void main(String[] args) throws Exception {
        BeardsAreBonds x = null;
        int examples = 0;
        for (String line : Files.readString(Path.of("README.md")).split("\n")) {
            if (line.equals("BeardsAreBonds x = new BeardsAreBonds();")) {
                x = new BeardsAreBonds();
                examples++;
            } else if (line.startsWith("x.")) {
                Matcher call = CALL.matcher(line);
                boolean told = call.matches() && x != null;
                check.due("a call and its answer: " + line, told ? 1 : 0, 1);
                if (told) {
                    check.due(line, answer(x, call.group(1), call.group(2)), Long.parseLong(call.group(3)));
                }
            }
        }
        check.due("examples", examples, EXAMPLES);
        check.end();
    }

    private static long answer(BeardsAreBonds x, String name, String arguments) throws Exception {
        String[] told = arguments.isEmpty() ? new String[0] : arguments.split(", ");
        Object[] given = new Object[told.length];
        for (int i = 0; i < told.length; i++) {
            given[i] = told[i].startsWith("'") ? told[i].charAt(1) : Integer.parseInt(told[i]);
        }
        for (Method m : BeardsAreBonds.class.getMethods()) {
            if (m.getName().equals(name) && m.getDeclaringClass() == BeardsAreBonds.class) {
                return ((Number) m.invoke(x, given)).longValue();
            }
        }
        throw new IllegalStateException("no call is named " + name);
    }
}
