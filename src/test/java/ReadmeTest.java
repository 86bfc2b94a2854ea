import java.io.IOException;
import java.lang.reflect.Method;
import java.lang.reflect.Modifier;
import java.nio.file.Files;
import java.nio.file.Path;
import java.util.regex.Matcher;
import java.util.regex.Pattern;

/** README.md says what is so: its calls answer what stands behind them, and each call has its row. */
public final class ReadmeTest {
    private static final Kit KIT = new Kit("ReadmeTest");
    private static final Pattern CALL = Pattern.compile("(?m)^desk\\.(\\w+)\\(([^)]*)\\);\\s*// (-?\\d+)");
    private static final Pattern ROW = Pattern.compile("(?m)^\\| `(\\w+)\\(([^)]*)\\)` \\|");

    public static void main(String[] args) throws IOException, ReflectiveOperationException {
        String text = Files.readString(Path.of("README.md"));
        example(text);
        rows(text);
        KIT.finish();
    }

    private static void example(String text) throws ReflectiveOperationException {
        CensusDesk desk = new CensusDesk();
        Matcher calls = CALL.matcher(text);
        int found = 0;
        while (calls.find()) {
            found++;
            KIT.due("call " + found + ", " + calls.group(1) + "(" + calls.group(2) + ")",
                answer(desk, calls.group(1), calls.group(2)), Integer.parseInt(calls.group(3)));
        }
        Matcher all = Pattern.compile("(?m)^desk\\.").matcher(text);
        KIT.due("calls with an answer behind them", found, (int) all.results().count());
        KIT.due("there are such", found > 0 ? "yes" : "no", "yes");
    }

    private static int answer(CensusDesk desk, String name, String arguments) throws ReflectiveOperationException {
        String[] parts = arguments.isBlank() ? new String[0] : arguments.split(", ");
        Object[] numbers = new Object[parts.length];
        for (int k = 0; k < parts.length; k++) numbers[k] = Long.decode(parts[k]).intValue();
        for (Method method : CensusDesk.class.getMethods()) {
            if (method.getName().equals(name) && method.getParameterCount() == parts.length) {
                return (Integer) method.invoke(desk, numbers);
            }
        }
        throw new NoSuchMethodException(name);
    }

    private static void rows(String text) {
        for (Method method : CensusDesk.class.getDeclaredMethods()) {
            if (!Modifier.isPublic(method.getModifiers())) continue;
            String parameters = "no row";
            Matcher rows = ROW.matcher(text);
            while (rows.find()) {
                if (rows.group(1).equals(method.getName())) parameters = count(rows.group(2)) + " numbers";
            }
            KIT.due("the row of " + method.getName(), parameters, method.getParameterCount() + " numbers");
        }
    }

    private static int count(String parameters) {
        return parameters.isBlank() ? 0 : parameters.split(", ").length;
    }
}
