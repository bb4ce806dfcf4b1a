import java.io.IOException;
import java.lang.reflect.Method;
import java.lang.reflect.Modifier;
import java.nio.file.Files;
import java.nio.file.Path;
import java.util.regex.Matcher;
import java.util.regex.Pattern;

/** README.md as it stands: its example answers what is told beside it, and it tells of every call. */
final class ReadmeTest {
    private static final Due DUE = new Due();
    private static final Pattern CALL =
        Pattern.compile("(?m)^chart\\.(\\w+)\\(([^)]*)\\);(?: +// (true|false|-?\\d+)(?=:|$))?");
    private static final int CALLS_WITH_ANSWERS = 11;

    public static void main(String[] args) throws IOException, ReflectiveOperationException {
        DUE.promise("README.md");
        String text = Files.readString(Path.of("README.md"));
        example(text.substring(text.indexOf("```java"), text.indexOf("```sh")));
        for (Method method : EarChart.class.getDeclaredMethods()) {
            if (Modifier.isPublic(method.getModifiers())) {
                DUE.is("it tells of " + method.getName(), text.contains("`" + method.getName() + "("), true);
            }
        }
        DUE.end();
    }

    private static void example(String lines) throws ReflectiveOperationException {
        EarChart chart = new EarChart();
        Matcher call = CALL.matcher(lines);
        int told = 0;
        while (call.find()) {
            Object got = answer(chart, call.group(1), call.group(2).split(", "));
            if (call.group(3) != null) {
                DUE.is(call.group() + " here answers " + got, got.toString().equals(call.group(3)), true);
                told++;
            }
        }
        DUE.is("answers told in the example", told, CALLS_WITH_ANSWERS);
    }

    private static Object answer(EarChart chart, String name, String[] written) throws ReflectiveOperationException {
        for (Method method : EarChart.class.getDeclaredMethods()) {
            if (Modifier.isPublic(method.getModifiers()) && method.getName().equals(name)) {
                Object[] given = new Object[written.length];
                for (int i = 0; i < given.length; i++) {
                    given[i] = written[i].matches("true|false")
                        ? (Object) Boolean.valueOf(written[i]) : (Object) Integer.valueOf(written[i]);
                }
                return method.invoke(chart, given);
            }
        }
        return "no such call";
    }
}
