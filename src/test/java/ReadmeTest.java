import java.nio.file.Files;
import java.nio.file.Path;
import java.util.regex.Matcher;
import java.util.regex.Pattern;

/** The calls that README.md shows answer as it says. */
public final class ReadmeTest {
    private static final Due due = new Due();
    private static final Pattern TEXT = Pattern.compile("for \\(char c : \"([^\"]*)\"");
    private static final Pattern CALL = Pattern.compile("(?m)^net\\.(\\w+)\\(([-\\d, ]*)\\);\\s*// (-?\\d+)");
    private static final int LEAST_CALLS = 10;

    public static void main(String[] args) throws Exception {
        Path program = Path.of(args.length > 0 ? args[0] : "src/main/java/RoofNet.java").toAbsolutePath();
        String readme = Files.readString(program.resolve("../../../../README.md").normalize());
        Matcher text = TEXT.matcher(readme);
        due.is("README.md writes a text", text.find() ? 1 : 0, 1);
        RoofNet net = new RoofNet();
        Due.write(net, text.group(1));
        Matcher call = CALL.matcher(readme);
        int calls = 0;
        while (call.find()) {
            calls++;
            due.is(call.group(), answer(net, call.group(1), call.group(2)), Long.parseLong(call.group(3)));
        }
        due.is("calls are shown", calls >= LEAST_CALLS ? 1 : 0, 1);
        due.end();
    }

    private static int answer(RoofNet net, String name, String numbers) throws ReflectiveOperationException {
        String[] parts = numbers.isBlank() ? new String[0] : numbers.split(",");
        Class<?>[] types = new Class<?>[parts.length];
        Object[] values = new Object[parts.length];
        for (int i = 0; i < parts.length; i++) {
            types[i] = int.class;
            values[i] = Integer.parseInt(parts[i].trim());
        }
        return (int) RoofNet.class.getMethod(name, types).invoke(net, values);
    }
}
