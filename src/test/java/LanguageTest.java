import java.io.IOException;
import java.lang.reflect.Field;
import java.lang.reflect.Method;
import java.lang.reflect.Modifier;
import java.nio.file.Files;
import java.nio.file.Path;
import java.util.ArrayList;
import java.util.Arrays;
import java.util.List;
import java.util.regex.Matcher;
import java.util.regex.Pattern;

/** The rules of LANGUAGE.md that can be seen from the text and the shape of the class. */
public final class LanguageTest {
    private static final Check c = new Check();

    private static void none(String code, String pattern) {
        Matcher m = Pattern.compile(pattern).matcher(code);
        c.due("not allowed: " + pattern, m.find() ? 1 : 0, 0);
    }

    private static void methodsAreShort(String code) {
        Matcher m = Pattern.compile("(?m)^( +)(?:public|private|static|final|int|long|boolean|void|Well)[^;=\\n]*\\) \\{$").matcher(code);
        while (m.find()) {
            int end = code.indexOf("\n" + m.group(1) + "}", m.start());
            long lines = code.substring(m.start(), end).lines().count();
            c.due("lines of" + m.group().strip(), lines > 60 ? 1 : 0, 0);
        }
    }

    /** Rule 4: of the library only functions that it lists; a constant of Integer is none of them. */
    private static void library(String code) {
        Matcher m = Pattern.compile("\\b([A-Z][a-z]\\w*)\\.(\\w+)(\\(?)").matcher(code);
        while (m.find()) {
            boolean listed = m.group(3).equals("(") && (m.group(1).matches("Integer|Long|Math")
                || m.group(1).equals("Arrays") && m.group(2).matches("copyOf|copyOfRange|fill")
                || m.group(1).equals("System") && m.group(2).equals("arraycopy"));
            c.due("not in the list of the library: " + m.group(), listed ? 1 : 0, 1);
        }
    }

    /** Rule 8: a method that calls itself is private and static. */
    private static void recursion(String code) {
        Matcher m = Pattern.compile("(?m)^( +)([a-zA-Z\\[\\] ]*?)(\\w+)\\([^;=()\\n]*\\) \\{$").matcher(code);
        while (m.find()) {
            int end = code.indexOf("\n" + m.group(1) + "}", m.end());
            boolean again = Pattern.compile("(?<!new )\\b" + m.group(3) + "\\(").matcher(code.substring(m.end(), end)).find();
            boolean fine = !again || m.group(2).contains("private static ");
            c.due("calls itself: " + m.group().strip(), fine ? 1 : 0, 1);
        }
    }

    private static void shape(Class<?> one) {
        List<Field> own = new ArrayList<>();
        for (Field f : one.getDeclaredFields()) {
            if (Modifier.isStatic(f.getModifiers())) {
                c.due("static fields are final: " + f, f.getModifiers() & Modifier.FINAL, Modifier.FINAL);
                c.due("no static field holds an object: " + f, f.getType().isPrimitive() ? 1 : 0, 1);
            } else {
                own.add(f);
            }
        }
        c.due("at most 20 fields in " + one, own.size() > 20 ? 1 : 0, 0);
        for (Method m : one.getDeclaredMethods()) {
            c.due("at most 7 parameters: " + m, m.getParameterCount() > 7 ? 1 : 0, 0);
        }
    }

    /** A method inside that bears a name of the face would be read for it. */
    private static void names() {
        for (Class<?> inside : ComesUpAsAQuestion.class.getDeclaredClasses()) {
            for (Method m : inside.getDeclaredMethods()) {
                boolean taken = Arrays.stream(ComesUpAsAQuestion.class.getMethods())
                    .anyMatch(f -> f.getDeclaringClass() == ComesUpAsAQuestion.class && f.getName().equals(m.getName()));
                c.due("named as one of the face: " + m, taken ? 1 : 0, 0);
            }
        }
    }

    public static void main(String[] args) throws IOException {
        String text = Files.readString(Path.of("src/main/java/ComesUpAsAQuestion.java"));
        String code = text.replaceAll("(?s)/\\*.*?\\*/", "").replaceAll("//[^\\n]*", "");
        none(code, "\\b(throw|throws|try|catch|synchronized|assert|import|package|instanceof|strictfp|native|volatile)\\b");
        none(code, "->|::|@|\"\"\"|\\bwhile\\b|\\bdo\\b");
        none(code, "Exact|\\bequals\\b|\\bhashCode\\b|\\btoString\\b");
        none(code, "\\b(Object|Random|Thread|Runtime|Class|Iterable|Optional|Map|Set|float|double)\\b");
        none(code, "\\bSystem\\.(?!arraycopy)");
        none(text, "[^\\x00-\\x7f]");
        methodsAreShort(code);
        library(code);
        recursion(code);
        names();
        shape(ComesUpAsAQuestion.class);
        c.due("classes", ComesUpAsAQuestion.class.getDeclaredClasses().length > 11 ? 1 : 0, 0);
        for (Class<?> inside : ComesUpAsAQuestion.class.getDeclaredClasses()) {
            shape(inside);
        }
        c.end();
    }
}
