import java.io.IOException;
import java.lang.reflect.InvocationTargetException;
import java.lang.reflect.Method;
import java.nio.file.Files;
import java.nio.file.Path;
import java.util.regex.Matcher;
import java.util.regex.Pattern;

/** Makes the calls that README.md shows, so that what stands behind each one stays true. */
public final class ReadmeTest {
    private static final Check CHECK = new Check("ReadmeTest");
    private static final Pattern TYPED = Pattern.compile("type\\(desk, \"(.*)\"\\); +// (\\w+)");
    private static final Pattern CALL =
            Pattern.compile("desk\\.(\\w+)\\(([^)]*)\\); +// ((?:throws )?\\w+).*");

    public static void main(String[] args) throws IOException, ReflectiveOperationException {
        PlanDesk desk = new PlanDesk();
        int calls = 0;
        for (String line : Files.readAllLines(Path.of("README.md"))) {
            Matcher typed = TYPED.matcher(line);
            Matcher call = CALL.matcher(line);
            if (typed.matches()) {
                calls++;
                same(line, typed.group(2), "" + Check.type(desk, typed.group(1)));
            } else if (call.matches()) {
                calls++;
                same(line, call.group(3), answer(desk, call.group(1), call.group(2)));
            } else if (line.startsWith("desk.") || line.startsWith("type(")) {
                CHECK.due("\"" + line + "\" can be read", true, false);
            }
        }
        // Without this a README whose calls look otherwise would pass unread.
        CHECK.due("calls are found", true, calls > 0);
        CHECK.end();
    }

    private static void same(String line, String want, String got) {
        CHECK.due("\"" + line + "\" gives " + got + "; that it is as told", true, want.equals(got));
    }

    private static String answer(PlanDesk desk, String name, String list)
            throws ReflectiveOperationException {
        String[] texts = list.isEmpty() ? new String[0] : list.split(", ");
        Object[] values = new Object[texts.length];
        Class<?>[] types = new Class<?>[texts.length];
        for (int i = 0; i < texts.length; i++) {
            values[i] = Integer.valueOf(texts[i]);
            types[i] = int.class;
        }
        Method method = PlanDesk.class.getMethod(name, types);
        try {
            return String.valueOf(method.invoke(desk, values));
        } catch (InvocationTargetException e) {
            return "throws " + e.getCause().getClass().getSimpleName();
        }
    }
}
