import java.io.IOException;
import java.lang.reflect.Method;
import java.nio.file.Files;
import java.nio.file.Path;
import java.util.Set;
import java.util.TreeSet;
import java.util.regex.Matcher;
import java.util.regex.Pattern;

/** The example of README.md: each line answers what its comment begins with, and every call of the face is in it. */
public final class ReadmeTest {
    private static final Pattern EXAMPLE = Pattern.compile("```java\n(.*?)```", Pattern.DOTALL);
    private static final String MAKING = "DugBySaid x = new DugBySaid();";
    private static final Pattern WRITING =
            Pattern.compile("for \\(char c : \"(.+)\"\\.toCharArray\\(\\)\\) \\{ x\\.letter\\(c\\); \\}");
    private static final Pattern CALLING = Pattern.compile("x\\.(\\w+)\\((.*)\\); +// (-?\\w+)\\b.*");

    private final DugBySaid x = new DugBySaid();
    private final Set<String> shown = new TreeSet<>();

    public static void main(String[] args) throws IOException, ReflectiveOperationException {
        Matcher example = EXAMPLE.matcher(Files.readString(Path.of("README.md")));
        Check.holds("README.md has an example", example.find());
        ReadmeTest test = new ReadmeTest();
        for (String line : example.group(1).split("\n")) {
            test.follow(line);
        }
        test.allAreShown();
        Check.end();
    }

    private void follow(String line) throws ReflectiveOperationException {
        Matcher writing = WRITING.matcher(line);
        Matcher calling = CALLING.matcher(line);
        if (writing.matches()) {
            Check.write(x, writing.group(1));
            shown.add("letter");
        } else if (calling.matches()) {
            Check.due(line, answer(calling.group(1), calling.group(2)), number(calling.group(3)));
            shown.add(calling.group(1));
        } else {
            Check.holds("understood: " + line, line.isEmpty() || line.startsWith("//") || line.equals(MAKING));
        }
    }

    private long answer(String name, String arguments) throws ReflectiveOperationException {
        String[] texts = arguments.isEmpty() ? new String[0] : arguments.split(", ");
        Class<?>[] types = new Class<?>[texts.length];
        Object[] numbers = new Object[texts.length];
        for (int at = 0; at < texts.length; at++) {
            types[at] = int.class;
            numbers[at] = (int) number(texts[at].replace("DugBySaid.", ""));
        }
        return ((Number) DugBySaid.class.getMethod(name, types).invoke(x, numbers)).longValue();
    }

    /** Digits, or the name of a constant. */
    private static long number(String text) throws ReflectiveOperationException {
        return text.matches("-?\\d+") ? Long.parseLong(text) : DugBySaid.class.getField(text).getInt(null);
    }

    private void allAreShown() {
        for (Method method : DugBySaid.class.getMethods()) {
            if (method.getDeclaringClass() == DugBySaid.class) {
                Check.holds("the example shows " + method.getName() + "()", shown.contains(method.getName()));
            }
        }
    }
}
