import java.lang.reflect.Method;
import java.lang.reflect.Modifier;
import java.util.ArrayList;
import java.util.Arrays;
import java.util.Comparator;
import java.util.List;
import java.util.Random;

/** All promises: long runs of calls by lot, each answer compared with the oracle's. */
public final class RandomRunsTest {
    private static final int RUNS = 400;
    private static final int CALLS = 512;

    private final Check c = new Check();
    private final List<Method> calls = new ArrayList<>();
    private final List<Method> dueCalls = new ArrayList<>();

    private RandomRunsTest() throws ReflectiveOperationException {
        for (Method m : ComesUpAsAQuestion.class.getDeclaredMethods()) {
            if (Modifier.isPublic(m.getModifiers())) {
                calls.add(m);
            }
        }
        calls.sort(Comparator.comparing(Method::getName));
        for (Method m : calls) {
            dueCalls.add(Oracle.class.getMethod(m.getName(), m.getParameterTypes()));
        }
    }

    private static String digits(Random r, int... below) {
        StringBuilder s = new StringBuilder();
        for (int b : below) {
            s.append(r.nextInt(b));
        }
        return s.toString();
    }

    private static String person(Random r) {
        int knows = r.nextInt(3) > 0 ? 255 & ~(1 << r.nextInt(12)) : r.nextInt(258);
        return "p" + digits(r, r.nextBoolean() ? 3 : 10) + String.format("%03d", knows) + ";";
    }

    private static String statement(Random r, int people) {
        switch (r.nextInt(12)) {
            case 0:
            case 1: return person(r);
            case 2: return "a" + digits(r, 10) + ";";
            case 3: return "k" + digits(r, people + 1, 9) + ";";
            case 4: return "o" + digits(r, 10) + ";";
            case 5: return "d" + (r.nextInt(4) == 0 ? digits(r, 7, 10) : "0" + digits(r, 10)) + ";";
            default: return "t" + "srchpb".charAt(r.nextInt(6)) + digits(r, 10, Math.max(1, people)) + ";";
        }
    }

    private static String text(Random r, int people) {
        StringBuilder s = new StringBuilder();
        if (people == 0) {
            for (int i = r.nextInt(5) + 1; i > 0; i--) {
                s.append(person(r));
                people++;
            }
        }
        for (int i = r.nextInt(10); i > 0; i--) {
            s.append(statement(r, people));
        }
        if (r.nextInt(8) == 0 && s.length() > 0) {
            s.setCharAt(r.nextInt(s.length()), "ptakod;0129srchbx ".charAt(r.nextInt(18)));
        }
        if (r.nextInt(12) == 0) {
            s.setLength(r.nextInt(s.length() + 1));
        }
        return s.toString();
    }

    /** An argument mostly among the numbers that the call takes there. */
    private static int argument(Random r, String name, int place, Oracle y) {
        if (r.nextInt(60) == 0) {
            int[] wild = {Integer.MIN_VALUE, Integer.MAX_VALUE, -1000000, 256, 100, -9, r.nextInt()};
            return wild[r.nextInt(wild.length)];
        }
        switch (name + place) {
            case "lots1": return r.nextInt();
            case "days0": return r.nextInt(4) == 0 ? r.nextInt(63) - 1 : r.nextInt(9) + 1;
            case "thingThen1":
            case "askThen0":
            case "runs0": return r.nextInt(4) == 0 ? r.nextInt(103) - 1 : r.nextInt(20);
            case "teach0":
            case "bold0":
            case "keepOut0":
            case "again0":
            case "drop2":
            case "two2": return r.nextInt(4) == 0 ? r.nextInt(44) - 1 : r.nextInt(15) + 1;
            case "letter0": return r.nextInt(260) - 2;
            case "count0": return r.nextInt(19) - 1;
            case "row0": return r.nextInt(20) == 0 ? r.nextInt(103) - 1 : r.nextInt(4);
            case "lots0": return r.nextInt(22);
            case "cold0": return r.nextInt(9);
            case "cold1": return r.nextInt(21) + 1;
            case "learns0":
            case "shy0":
            case "person0":
            case "two0":
            case "two1": return r.nextInt(y.count(0) + 1) - r.nextInt(20) / 19;
            case "drops0":
            case "thing0":
            case "thingThen0":
            case "turn0":
            case "answers0":
            case "quiet0":
            case "whatWas0": return r.nextInt(y.count(1) + 1) - r.nextInt(20) / 19;
            case "learns1":
            case "knower0": return r.nextInt(10) - 1;
            case "shy1":
            case "drought0":
            case "turn2":
            case "drop1": return r.nextInt(12) - 1;
            case "turn1":
            case "drop0":
            case "thing1": return r.nextInt(10) == 0 ? r.nextInt(10) - 1 : r.nextInt(6);
            case "person1":
            case "first0": return r.nextInt(10) == 0 ? r.nextInt(7) - 1 : r.nextInt(4);
            default: return r.nextInt(12) == 0 ? r.nextInt(5) - 2 : r.nextInt(2);
        }
    }

    private long call(Object x, Method m, Object[] args) throws ReflectiveOperationException {
        return ((Number) m.invoke(x, args)).longValue();
    }

    private long compare(int run, Object x, Object y, String name, Object... args) throws ReflectiveOperationException {
        for (int i = 0; i < calls.size(); i++) {
            if (calls.get(i).getName().equals(name)) {
                long due = call(y, dueCalls.get(i), args);
                c.due("run " + run + ": " + name + Arrays.toString(args), call(x, calls.get(i), args), due);
                return due;
            }
        }
        throw new IllegalStateException("no call " + name);
    }

    /** A row that the days to come bear out, or nearly. */
    private int tellRow(int run, Object x, Object y, Random r) throws ReflectiveOperationException {
        int many = r.nextInt(5) + 1;
        int thing = r.nextInt(9);
        boolean ofThing = r.nextBoolean() && thing < ((Oracle) y).count(1);
        compare(run, x, y, "image");
        if (ofThing) {
            compare(run, x, y, "drops", thing);
        }
        for (int d = 0; d < many; d++) {
            int v = ofThing ? ((Oracle) y).thingThen(thing, d, 1) : Integer.bitCount(((Oracle) y).askThen(d, 0));
            compare(run, x, y, "row", r.nextInt(15) == 0 ? v + 1 : v);
        }
        compare(run, x, y, "on");
        if (ofThing) {
            compare(run, x, y, "whatWas", thing, 0);
            compare(run, x, y, "whatWas", thing, 1);
        }
        compare(run, x, y, "judge");
        return many + 6;
    }

    private void run(int run) throws ReflectiveOperationException {
        Random r = new Random(run);
        ComesUpAsAQuestion x = new ComesUpAsAQuestion();
        Oracle y = new Oracle();
        int done = 0;
        while (done < CALLS - 120) {
            int lot = r.nextInt(40);
            if (lot == 0 || y.count(0) == 0 && lot < 10) {
                String s = text(r, y.count(0));
                for (int i = 0; i < s.length(); i++) {
                    compare(run, x, y, "letter", (int) s.charAt(i));
                }
                compare(run, x, y, "well");
                done += Math.min(s.length(), 96) + 1;
            } else if (lot == 1) {
                done += tellRow(run, x, y, r);
            } else {
                Method m = calls.get(r.nextInt(calls.size()));
                Object[] args = new Object[m.getParameterCount()];
                for (int i = 0; i < args.length; i++) {
                    args[i] = argument(r, m.getName(), i, y);
                }
                boolean seldom = m.getName().equals("letter") || m.getName().equals("days") && r.nextBoolean();
                if (!seldom || r.nextInt(10) == 0) {
                    compare(run, x, y, m.getName(), args);
                    done++;
                }
            }
        }
    }

    public static void main(String[] args) throws ReflectiveOperationException {
        RandomRunsTest t = new RandomRunsTest();
        for (int run = 1; run <= RUNS; run++) {
            t.run(run);
        }
        t.c.end();
    }
}
