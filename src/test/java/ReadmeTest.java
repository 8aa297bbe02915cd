import java.io.IOException;
import java.lang.reflect.Method;
import java.lang.reflect.Modifier;
import java.nio.file.Files;
import java.nio.file.Path;
import java.util.regex.Matcher;
import java.util.regex.Pattern;

/** What README.md shows is so: its example answers what stands beside each call, and it names every call. */
public final class ReadmeTest {
    private static long call(ComesUpAsAQuestion x, String name, String argument) throws ReflectiveOperationException {
        if (argument.isEmpty()) {
            return ((Number) ComesUpAsAQuestion.class.getMethod(name).invoke(x)).longValue();
        }
        Method m = ComesUpAsAQuestion.class.getMethod(name, int.class);
        return ((Number) m.invoke(x, Integer.parseInt(argument))).longValue();
    }

    public static void main(String[] args) throws IOException, ReflectiveOperationException {
        Check c = new Check();
        String readme = Files.readString(Path.of("README.md"));
        ComesUpAsAQuestion x = new ComesUpAsAQuestion();
        Matcher text = Pattern.compile("\"([^\"]+)\"\\.toCharArray").matcher(readme);
        c.due("a text in the example", text.find() ? 1 : 0, 1);
        for (char letter : text.group(1).toCharArray()) {
            x.letter(letter);
        }
        int shown = 0;
        Matcher line = Pattern.compile("(?m)^x\\.(\\w+)\\((-?\\d*)\\); +// (-?\\d+)\\b").matcher(readme);
        while (line.find()) {
            shown++;
            c.due(line.group(), call(x, line.group(1), line.group(2)), Long.parseLong(line.group(3)));
        }
        c.due("calls in the example", shown, 4);
        for (Method m : ComesUpAsAQuestion.class.getDeclaredMethods()) {
            if (Modifier.isPublic(m.getModifiers())) {
                c.due("README.md names " + m.getName(), readme.contains("`" + m.getName() + "`") ? 1 : 0, 1);
            }
        }
        c.end();
    }
}
