import java.lang.reflect.Constructor;
import java.lang.reflect.Field;
import java.lang.reflect.Method;
import java.lang.reflect.Modifier;
import java.util.Arrays;
import java.util.Set;
import java.util.TreeSet;

/** The public face is the document's, and nothing else can be seen from outside. */
public final class FaceTest {
    private static final String FACE = "int letter(int) int well() int person(int,int) int thing(int,int) int drops(int)"
        + " int learns(int,int) int shy(int,int) int drought(int) int turn(int,int,int) int answers(int) int days(int)"
        + " int thingThen(int,int,int) int askThen(int,int) int quiet(int) int first(int) int runs(int,int) int never()"
        + " int busiest() int teach(int) int bold(int) int fewest(int) int keepOut(int) int drop(int,int,int,int)"
        + " int again(int) int hardest() int topics() int alike(int) int knower(int) int truth() int two(int,int,int)"
        + " long cold(int,int,int) long mean(int) int whatWas(int,int) int row(int) int judge() int clear()"
        + " int lots(int,int,int) int image() int on() int count(int)";

    public static void main(String[] args) {
        Check c = new Check();
        Class<?> face = ComesUpAsAQuestion.class;
        c.due("public and final", face.getModifiers() & (Modifier.PUBLIC | Modifier.FINAL), Modifier.PUBLIC | Modifier.FINAL);

        Set<String> seen = new TreeSet<>();
        Set<String> hidden = new TreeSet<>();
        for (Method m : face.getDeclaredMethods()) {
            if (Modifier.isPrivate(m.getModifiers())) {
                hidden.add(m.getName());
                continue;
            }
            StringBuilder s = new StringBuilder(m.getReturnType().getName()).append(' ').append(m.getName()).append('(');
            Class<?>[] types = m.getParameterTypes();
            for (int i = 0; i < types.length; i++) {
                s.append(i == 0 ? "" : ",").append(types[i].getName());
            }
            seen.add(s.append(')').toString());
        }
        Set<String> wanted = new TreeSet<>(Arrays.asList(FACE.split("(?<=\\)) ")));
        c.due("methods of the face: " + seen, seen.equals(wanted) ? 1 : 0, 1);
        for (String s : wanted) {
            String name = s.substring(s.indexOf(' ') + 1, s.indexOf('('));
            c.due("private methods named " + name, hidden.contains(name) ? 1 : 0, 0);
        }
        Constructor<?>[] makers = face.getDeclaredConstructors();
        c.due("constructors", makers.length, 1);
        c.due("constructor is public", makers[0].getModifiers() & Modifier.PUBLIC, Modifier.PUBLIC);
        for (Field f : face.getDeclaredFields()) {
            c.due("field is private: " + f.getName(), f.getModifiers() & Modifier.PRIVATE, Modifier.PRIVATE);
        }
        for (Class<?> inside : face.getDeclaredClasses()) {
            c.due("class inside is static: " + inside.getName(), inside.getModifiers() & Modifier.STATIC, Modifier.STATIC);
        }
        c.end();
    }
}
