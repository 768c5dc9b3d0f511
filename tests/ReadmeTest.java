import java.io.IOException;
import java.lang.reflect.Method;
import java.nio.file.Files;
import java.nio.file.Path;
import java.util.Arrays;
import java.util.List;
import java.util.Set;
import java.util.TreeSet;
import java.util.regex.Matcher;
import java.util.regex.Pattern;
import java.util.stream.Collectors;
import java.util.stream.Stream;

/** README.md: its example answers as it says, and it tells every call, every constant and every test. */
public final class ReadmeTest {
    private static final Check CHECK = new Check("ReadmeTest");
    private static final Pattern ASKED = Pattern.compile("^    x\\.(\\w+)\\(([^)]*)\\); +// (-?\\d+): ");
    private static final Pattern TOLD = Pattern.compile("(?s)^    tape\\(x, (.*)\\);$");
    private static final Pattern CALL = Pattern.compile("(?m)^\\| `(\\w+)\\(([^)]*)\\)` \\|");
    private static final Pattern CONSTANT = Pattern.compile("(?m)^\\| `([A-Z]+)` (-\\d+) \\|");

    public static void main(String[] args) throws ReflectiveOperationException, IOException {
        String page = Files.readString(Path.of("README.md"));
        String example = page.substring(page.indexOf("## An example"), page.indexOf("## How to run its tests"));
        example(example.replaceAll("\"\n +\\+ \"", ""));
        calls(page);
        constants(page);
        tests(page.substring(page.indexOf("## How to run its tests")));
        CHECK.close();
    }

    private static void example(String example) throws ReflectiveOperationException {
        HandedDown x = new HandedDown();
        int asked = 0;
        for (String line : example.lines().toList()) {
            Matcher told = TOLD.matcher(line);
            Matcher row = ASKED.matcher(line);
            if (told.matches()) {
                Check.tape(x, told.group(1).replace("\"", ""));
            } else if (row.find()) {
                CHECK.due(line.trim(), answer(x, row.group(1), row.group(2)), Long.parseLong(row.group(3)));
                asked++;
            } else {
                CHECK.due("a row that is not read: " + line, line.startsWith("    x.") ? 1 : 0, 0);
            }
        }
        CHECK.due("rows were found", asked > 30 ? 1 : 0, 1);
    }

    private static long answer(HandedDown x, String call, String told) throws ReflectiveOperationException {
        String[] signs = told.isEmpty() ? new String[0] : told.split(", ");
        for (Method method : HandedDown.class.getMethods()) {
            if (method.getName().equals(call)) {
                Object[] values = new Object[signs.length];
                for (int i = 0; i < signs.length; i++) {
                    values[i] = value(signs[i], method.getParameterTypes()[i]);
                }
                return ((Number) method.invoke(x, values)).longValue();
            }
        }
        throw new IllegalStateException("there is no such call: " + call);
    }

    private static Object value(String sign, Class<?> type) {
        if (type == boolean.class) {
            return Boolean.valueOf(sign);
        }
        return type == int.class ? (Object) Integer.valueOf(sign) : Long.valueOf(sign);
    }

    private static void calls(String page) {
        Set<String> told = new TreeSet<>();
        Matcher calls = CALL.matcher(page);
        while (calls.find()) {
            told.add(calls.group(1) + " of " + (calls.group(2).isEmpty() ? 0 : calls.group(2).split(", ").length));
        }
        Set<String> there = Arrays.stream(HandedDown.class.getMethods())
            .filter(method -> method.getDeclaringClass() == HandedDown.class)
            .map(method -> method.getName() + " of " + method.getParameterCount())
            .collect(Collectors.toCollection(TreeSet::new));
        CHECK.same("the calls that are told", told.toString(), there.toString());
    }

    private static void constants(String page) {
        Matcher constants = CONSTANT.matcher(page);
        StringBuilder told = new StringBuilder();
        while (constants.find()) {
            told.append(constants.group(1)).append(' ').append(constants.group(2)).append(' ');
        }
        CHECK.same("the constants that are told", told.toString(), "BAD " + HandedDown.BAD + " STATE " + HandedDown.STATE
            + " FULL " + HandedDown.FULL + " NONE " + HandedDown.NONE + " ");
    }

    private static void tests(String part) throws IOException {
        try (Stream<Path> files = Files.list(Path.of("tests"))) {
            List<String> names = files.map(file -> file.getFileName().toString())
                .filter(name -> name.endsWith("Test.java"))
                .map(name -> name.substring(0, name.length() - 5)).sorted().toList();
            for (String name : names) {
                CHECK.due("it tells of " + name, part.contains("- `" + name + "`") ? 1 : 0, 1);
            }
            CHECK.due("tests were found", names.isEmpty() ? 0 : 1, 1);
        }
    }
}
