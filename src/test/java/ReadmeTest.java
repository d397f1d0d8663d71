import java.io.IOException;
import java.lang.reflect.InvocationTargetException;
import java.lang.reflect.Method;
import java.nio.file.Files;
import java.nio.file.Path;
import java.util.regex.Matcher;
import java.util.regex.Pattern;

/** The calls that README.md shows, made on one object, answer what it says behind them. */
public final class ReadmeTest {
    private static final Pattern CALL = Pattern.compile("bits\\.(\\w+)\\((.*)\\); +// (.*)");

    public static void main(String[] args) throws IOException {
        String readme = Files.readString(Path.of("README.md"));
        FewBits bits = new FewBits();
        for (String line : shown(readme).lines().skip(1).toList()) {
            Check.test(line, () -> answersAsSaid(bits, line));
        }
        for (Method method : FewBits.class.getMethods()) {
            if (method.getDeclaringClass() == FewBits.class) {
                Check.test("the table of calls", () -> Check.due("it has " + method.getName(),
                    readme.contains("| `" + method.getName() + "("), true));
            }
        }
        Check.done();
    }

    private static String shown(String readme) {
        String begin = "```java\nFewBits bits = new FewBits();\n";
        int from = readme.indexOf(begin);
        return from < 0 ? "\nnothing" : readme.substring(from + "```java\n".length(), readme.indexOf("```\n", from + 1));
    }

    private static void answersAsSaid(FewBits bits, String line) {
        Matcher call = CALL.matcher(line);
        Check.due("it is a call with what it answers", call.matches(), true);
        String answer = answer(bits, call.group(1), call.group(2).split(", "));
        if (!answer.equals("null")) {
            Check.dueText("what it answers", answer, call.group(3).split(": ")[0]);
        }
    }

    private static String answer(FewBits bits, String name, String[] numbers) {
        Method method = methodOf(name);
        Object[] arguments = new Object[numbers.length];
        for (int i = 0; i < numbers.length; i++) {
            arguments[i] = numbers[i].endsWith("L")
                ? (Object) Long.valueOf(numbers[i].replace("L", "")) : (Object) Integer.valueOf(numbers[i]);
        }
        try {
            return String.valueOf(method.invoke(bits, arguments));
        } catch (InvocationTargetException e) {
            return "throws " + e.getCause().getClass().getSimpleName();
        } catch (IllegalAccessException e) {
            throw new IllegalStateException(e);
        }
    }

    private static Method methodOf(String name) {
        for (Method method : FewBits.class.getMethods()) {
            if (method.getName().equals(name)) {
                return method;
            }
        }
        throw new IllegalArgumentException("no method " + name);
    }
}
