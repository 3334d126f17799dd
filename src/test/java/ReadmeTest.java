import java.io.IOException;
import java.lang.reflect.Method;
import java.nio.file.Files;
import java.nio.file.Path;
import java.util.ArrayList;
import java.util.List;
import java.util.regex.Matcher;
import java.util.regex.Pattern;

/** The example of README.md answers as it says; run from the project's folder. */
public final class ReadmeTest {
    private static final Pattern BLOCK = Pattern.compile("```java\n(.*?)```", Pattern.DOTALL);
    private static final Pattern FED = Pattern.compile("\"([^\"]*)\"\\.toCharArray");
    private static final Pattern CALL = Pattern.compile("keeper\\.(\\w+)\\(([^)]*)\\);\\s*// (-?\\d+):");
    private static final int LEAST_CALLS = 10;
    private static final Expect EXPECT = new Expect("ReadmeTest");

    private final SpanKeeper keeper = new SpanKeeper();
    private long formula = -1;

    public static void main(String[] args) throws IOException {
        String readme = Files.readString(Path.of("README.md"));
        Matcher block = BLOCK.matcher(readme);
        boolean found = block.find();
        EXPECT.holds("there is an example", found);
        if (found) {
            new ReadmeTest().goThrough(block.group(1));
        }
        for (Method method : SpanKeeper.class.getMethods()) {
            if (method.getDeclaringClass() == SpanKeeper.class) {
                EXPECT.holds(method.getName() + " is told of", readme.contains("`" + method.getName() + "`"));
            }
        }
        EXPECT.finish();
    }

    private void goThrough(String example) {
        int calls = 0;
        for (String line : example.split("\n")) {
            Matcher fed = FED.matcher(line);
            if (fed.find()) {
                for (char letter : fed.group(1).toCharArray()) {
                    keeper.feed(letter);
                }
            }
            Matcher call = CALL.matcher(line);
            if (call.find()) {
                calls++;
                long got = answer(call.group(1), call.group(2));
                EXPECT.due(line.trim(), got, Long.parseLong(call.group(3)));
            }
        }
        EXPECT.holds("it shows some calls: " + calls, calls >= LEAST_CALLS);
    }

    private long answer(String name, String told) {
        List<Integer> numbers = new ArrayList<>();
        for (String number : told.isEmpty() ? new String[0] : told.split(", ")) {
            numbers.add(number.equals("f") ? (int) formula : Integer.parseInt(number));
        }
        for (Method method : SpanKeeper.class.getMethods()) {
            if (method.getName().equals(name)) {
                try {
                    long got = ((Number) method.invoke(keeper, numbers.toArray())).longValue();
                    formula = name.equals("formula") ? got : formula;
                    return got;
                } catch (ReflectiveOperationException | IllegalArgumentException wrongCall) {
                    EXPECT.holds(name + "(" + told + ") can be called: " + wrongCall, false);
                }
            }
        }
        EXPECT.holds("there is a call " + name, false);
        return 0;
    }
}
