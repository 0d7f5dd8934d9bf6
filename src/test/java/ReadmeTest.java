import java.io.File;
import java.io.IOException;
import java.lang.reflect.Method;
import java.lang.reflect.Modifier;
import java.nio.file.Files;
import java.nio.file.Path;
import java.util.List;
import java.util.regex.Matcher;
import java.util.regex.Pattern;

/** README.md: its example answers as it says, and no call and no test is left out. */
final class ReadmeTest {
    private static final Pattern CALL =
        Pattern.compile("x\\.(\\w+)\\(([-0-9, ]*)\\);\\s*// (-?\\d+|[A-Z]+(?: \\+ [A-Z]+)?).*");
    private static final Pattern TEXT = Pattern.compile("String fair = \"([^\"]*)\";.*");

    private final Checks checks = new Checks("ReadmeTest");
    private FairBoards x = new FairBoards();
    private String fair = "";

    public static void main(String[] args) throws IOException, ReflectiveOperationException {
        ReadmeTest test = new ReadmeTest();
        List<String> page = Files.readAllLines(Path.of("README.md"));
        test.example(page);
        test.calls(page);
        test.tests(page);
        test.checks.end();
    }

    private void example(List<String> page) throws ReflectiveOperationException {
        boolean within = false;
        int asked = 0;
        for (String row : page) {
            String line = row.strip();
            if (line.startsWith("```")) {
                within = line.equals("```java");
            } else if (within && CALL.matcher(line).matches()) {
                ask(line);
                asked++;
            } else if (within) {
                plainLine(line);
            }
        }
        checks.holds("the example asks something", asked > 0);
    }

    private void ask(String line) throws ReflectiveOperationException {
        Matcher call = CALL.matcher(line);
        checks.holds(line, call.matches());
        Method method = method(call.group(1));
        if (method == null) {
            checks.holds("there is a call as in " + line, false);
            return;
        }
        String[] written = call.group(2).isEmpty() ? new String[0] : call.group(2).split(", ");
        Object[] numbers = new Object[written.length];
        for (int i = 0; i < written.length; i++) {
            numbers[i] = Integer.parseInt(written[i]);
        }
        checks.due(line, ((Number) method.invoke(x, numbers)).longValue(), number(call.group(3)));
    }

    /* Every other line of the example is one that this knows, or the example is not looked at whole. */
    private void plainLine(String line) {
        Matcher text = TEXT.matcher(line);
        if (text.matches()) {
            fair = text.group(1);
        } else if (line.equals("FairBoards x = new FairBoards();")) {
            x = new FairBoards();
        } else if (line.equals("x.say(fair.charAt(i));")) {
            Checks.say(x, fair);
        } else {
            boolean loop = line.equals("for (int i = 0; i < fair.length(); i++) {") || line.equals("}");
            checks.holds("a line that is known: " + line, loop || line.isEmpty());
        }
    }

    private static Method method(String name) {
        for (Method method : FairBoards.class.getDeclaredMethods()) {
            if (method.getName().equals(name) && Modifier.isPublic(method.getModifiers())) {
                return method;
            }
        }
        return null;
    }

    private static long number(String written) throws ReflectiveOperationException {
        if (!Character.isUpperCase(written.charAt(0))) {
            return Long.parseLong(written);
        }
        long sum = 0;
        for (String name : written.split(" \\+ ")) {
            sum += FairBoards.class.getField(name).getLong(null);
        }
        return sum;
    }

    private void calls(List<String> page) throws IOException {
        String source = Files.readString(Path.of("src/main/java/FairBoards.java"));
        Matcher open = Pattern.compile("\n    public (?:int|long) (\\w+)\\(([^)]*)\\) \\{").matcher(source);
        int rows = 0;
        while (open.find()) {
            String row = "| `" + open.group(1) + "(" + open.group(2).replace("int ", "") + ")` |";
            checks.due("rows " + row, page.stream().filter(line -> line.startsWith(row)).count(), 1);
            rows++;
        }
        checks.due("calls in the table", rows, 27);
    }

    private void tests(List<String> page) {
        String[] files = new File("src/test/java").list((place, name) -> name.endsWith("Test.java"));
        checks.holds("there are tests", files != null && files.length > 0);
        for (String file : files == null ? new String[0] : files) {
            String row = "| `" + file.replace(".java", "") + "` |";
            checks.due("rows " + row, page.stream().filter(line -> line.startsWith(row)).count(), 1);
        }
    }
}
