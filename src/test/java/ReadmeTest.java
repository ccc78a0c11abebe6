import java.lang.reflect.Method;
import java.nio.file.Files;
import java.nio.file.Path;
import java.util.regex.Matcher;
import java.util.regex.Pattern;

/** The calls that README.md shows, with the answers that stand beside them. */
public final class ReadmeTest extends Asked {
    private static final Pattern TOLD = Pattern.compile("^tell\\(x, \"([^\"]*)\"\\);\\s*// (-?\\d+)");
    private static final Pattern CALL = Pattern.compile("^x\\.(\\w+)\\(([^)]*)\\);\\s*// (-?\\d+|true|false)");
    private static int calls = 0;

    public static void main(String[] args) throws Exception {
        sentence("README.md");
        RegisterColours x = null;
        for (String line : Files.readAllLines(Path.of("README.md"))) {
            if (line.startsWith("RegisterColours x = new")) {
                x = new RegisterColours();
            }
            Matcher told = TOLD.matcher(line);
            Matcher call = CALL.matcher(line);
            if (x != null && told.find()) {
                calls++;
                due(line, tell(x, told.group(1)), Integer.parseInt(told.group(2)));
            } else if (x != null && call.find()) {
                calls++;
                due(line, answer(x, call.group(1), call.group(2)), call.group(3));
            }
        }
        due("calls on the page", calls > 20, true);
        endOfTest();
    }

    private static String answer(RegisterColours x, String name, String told) throws ReflectiveOperationException {
        String[] texts = told.isEmpty() ? new String[0] : told.split(", ");
        Object[] values = new Object[texts.length];
        for (int i = 0; i < texts.length; i++) {
            boolean isFlag = texts[i].equals("true") || texts[i].equals("false");
            values[i] = isFlag ? (Object) Boolean.valueOf(texts[i]) : (Object) Integer.valueOf(texts[i]);
        }
        for (Method method : RegisterColours.class.getMethods()) {
            if (method.getName().equals(name)) {
                return String.valueOf(method.invoke(x, values));
            }
        }
        return "no such call";
    }
}
