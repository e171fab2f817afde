import java.io.File;
import java.lang.reflect.Method;
import java.lang.reflect.Modifier;
import java.nio.file.Files;
import java.nio.file.Path;
import java.util.ArrayList;
import java.util.List;
import java.util.regex.Matcher;
import java.util.regex.Pattern;

/** README.md says what is true: its calls are made in their order; it is run in the project's folder. */
public final class ReadmeTest {
    private static final Pattern CALL = Pattern.compile("(?m)^x\\.(\\w+)\\((.*)\\); +// (-?\\w+): .+$");

    private static final Due due = new Due();

    public static void main(String[] args) throws Exception {
        String page = Files.readString(Path.of("README.md"));
        example(page);
        everyCall(page);
        everyTest(page);
        due.end();
    }

    private static void example(String page) throws Exception {
        String example = page.replaceAll("(?s).*```java\n(.*?)```.*", "$1");
        GarbleWords x = new GarbleWords();
        Matcher call = CALL.matcher(example);
        int calls = 0;
        while (call.find()) {
            due.is(call.group(), answer(x, call.group(1), call.group(2)), number(call.group(3)));
            calls++;
        }
        due.is("each line behind the first one is a call", calls, example.split("\n").length - 1);
    }

    private static int answer(GarbleWords x, String name, String arguments) throws Exception {
        List<Object> values = new ArrayList<>();
        for (String argument : arguments.isEmpty() ? new String[0] : arguments.split(", ")) {
            if (argument.endsWith("L")) {
                values.add(Long.decode(argument.substring(0, argument.length() - 1)));
            } else {
                values.add(number(argument));
            }
        }
        for (Method method : GarbleWords.class.getMethods()) {
            if (method.getName().equals(name)) {
                return (int) method.invoke(x, values.toArray());
            }
        }
        throw new IllegalStateException("no method " + name);
    }

    /** A number, or a constant of the class. */
    private static int number(String text) throws Exception {
        return text.matches("-?\\d+") ? Integer.parseInt(text) : GarbleWords.class.getField(text).getInt(null);
    }

    private static void everyCall(String page) {
        String table = page.substring(page.indexOf("| calls |"), page.indexOf("## Tests"));
        for (Method method : GarbleWords.class.getDeclaredMethods()) {
            if (Modifier.isPublic(method.getModifiers())) {
                due.yes("README tells of " + method.getName(), table.contains("`" + method.getName() + "`"));
            }
        }
    }

    private static void everyTest(String page) {
        String tests = page.substring(page.indexOf("## Tests"));
        for (String file : new File("src/test/java").list()) {
            if (file.endsWith("Test.java")) {
                String name = file.replace(".java", "");
                due.yes("README tells of " + name, tests.contains("`" + name + "`"));
            }
        }
    }
}
