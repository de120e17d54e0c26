import java.io.IOException;
import java.lang.reflect.Method;
import java.nio.file.Files;
import java.nio.file.Path;
import java.util.regex.Matcher;
import java.util.regex.Pattern;

/** The calls that README.md shows answer what stands behind them there. */
public final class ReadmeTest {
    private static final Due DUE = new Due();
    private static final Pattern CALL = Pattern.compile("(?m)^village\\.(\\w+)\\(([^)]*)\\); *// (-?\\w+)");

    public static void main(String[] args) throws IOException, ReflectiveOperationException {
        String page = Files.readString(Path.of("README.md"));
        OnlyUpward village = Due.village(between(page, "```text\n", "```"));
        Matcher calls = CALL.matcher(page);
        int n = 0;
        while (calls.find()) {
            n++;
            String due = calls.group(3);
            DUE.is(calls.group(), answer(village, calls.group(1), calls.group(2)).equals(due), true);
        }
        DUE.is("calls that README.md shows: " + n, n > 20, true);
        everyCallIsNamed(page.substring(page.indexOf("Calls by what they are for"), page.indexOf("## Tests")));
        DUE.end("ReadmeTest");
    }

    private static String between(String page, String from, String to) {
        int start = page.indexOf(from) + from.length();
        return page.substring(start, page.indexOf(to, start));
    }

    private static String answer(OnlyUpward village, String name, String given) throws ReflectiveOperationException {
        for (Method method : OnlyUpward.class.getMethods()) {
            if (method.getName().equals(name)) {
                return "" + method.invoke(village, arguments(method, given));
            }
        }
        return "no such call";
    }

    private static Object[] arguments(Method method, String given) {
        Object[] values = new Object[method.getParameterCount()];
        String[] texts = given.split(", *");
        for (int i = 0; i < values.length; i++) {
            String text = texts[i].replace("OnlyUpward.NONE", "-1");
            boolean truth = method.getParameterTypes()[i] == boolean.class;
            values[i] = truth ? (Object) Boolean.valueOf(text) : Integer.valueOf(text);
        }
        return values;
    }

    private static void everyCallIsNamed(String list) {
        for (Method method : OnlyUpward.class.getDeclaredMethods()) {
            if (java.lang.reflect.Modifier.isPublic(method.getModifiers())) {
                boolean named = Pattern.compile("[`\\s]" + method.getName() + "[`\\s]").matcher(list).find();
                DUE.is("README.md names " + method.getName(), named, true);
            }
        }
    }
}
