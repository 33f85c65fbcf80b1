import java.io.IOException;
import java.lang.reflect.Method;
import java.nio.file.Files;
import java.nio.file.Path;
import java.util.Set;
import java.util.TreeSet;
import java.util.regex.Matcher;
import java.util.regex.Pattern;
import java.util.stream.Collectors;
import java.util.stream.Stream;

/** README.md: its calls, made on one object, answer what stands behind them; the tests it names are those there are. */
public final class ReadmeTest {
    private static final Due due = new Due("ReadmeTest");
    private static final Pattern CALL = Pattern.compile("(?m)^x\\.(\\w+)\\((.*?)\\); +// (-?\\d+)\\b.*$");

    public static void main(String[] args) throws IOException, ReflectiveOperationException {
        String page = Files.readString(Path.of("README.md"));
        calls(page);
        tests(page);
        due.end();
    }

    private static void calls(String page) throws ReflectiveOperationException {
        HowHigh x = new HowHigh();
        Matcher call = CALL.matcher(page);
        int calls = 0;
        while (call.find()) {
            due.is(call.group(), answer(x, call.group(1), call.group(2)), Long.parseLong(call.group(3)));
            calls++;
        }
        due.is("lines with a call", calls, page.lines().filter(line -> line.startsWith("x.")).count());
        due.holds("calls", calls > 0);
    }

    private static long answer(HowHigh x, String name, String told) throws ReflectiveOperationException {
        String[] numbers = told.isEmpty() ? new String[0] : told.split(", ");
        for (Method m : HowHigh.class.getMethods()) {
            if (m.getName().equals(name) && m.getParameterCount() == numbers.length) {
                Object[] args = new Object[numbers.length];
                for (int i = 0; i < args.length; i++) {
                    long number = Long.decode(numbers[i].replace("L", ""));
                    args[i] = m.getParameterTypes()[i] == long.class ? (Object) number : (Object) (int) number;
                }
                return ((Number) m.invoke(x, args)).longValue();
            }
        }
        throw new NoSuchMethodException(name);
    }

    private static void tests(String page) throws IOException {
        Set<String> named = new TreeSet<>();
        Matcher name = Pattern.compile("`(\\w+Test)`").matcher(page);
        while (name.find()) {
            named.add(name.group(1));
        }
        try (Stream<Path> files = Files.list(Path.of("src/test/java"))) {
            Set<String> there = files.map(file -> file.getFileName().toString()).filter(n -> n.endsWith("Test.java"))
                .map(n -> n.replace(".java", "")).collect(Collectors.toCollection(TreeSet::new));
            due.holds("the tests that are named are those there are: " + named + there, named.equals(there));
        }
    }
}
