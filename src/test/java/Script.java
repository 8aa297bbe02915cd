import java.lang.reflect.InvocationTargetException;
import java.lang.reflect.Method;
import java.util.ArrayList;
import java.util.List;

/**
 * Runs told as texts: 'p0001;ts00;' stands for its letters, days(1)=1 for a call and the answer that is due, 16*row(0)
 * for sixteen of them. A call without an answer must not be refused. MIN and MAX are the least and the greatest int, L4
 * is the long that refuses with -4.
 *
 * Behind each run all REFUSALS must be counted, and nothing else may tell the object from one to which nobody has made
 * the calls that were refused, and no WELL with a FAULT was told.
 */
final class Script {
    private static final int MOST_CALLS = 512;
    private static final int COUNTS_OF_REFUSALS = 6;
    private static final long LONG_REFUSAL = 4000000000000000000L;

    private final Check c;
    private final ComesUpAsAQuestion x = new ComesUpAsAQuestion();
    private final List<String> held = new ArrayList<>();
    private final int[] refused = new int[COUNTS_OF_REFUSALS + 1];
    private final StringBuilder ahead = new StringBuilder();
    private int made = 0;

    private Script(Check c) {
        this.c = c;
    }

    static void run(Check c, String text) {
        Script s = new Script(c);
        for (String word : text.trim().split("\\s+")) {
            s.word(word);
        }
        s.end();
    }

    private void word(String word) {
        int star = word.indexOf('*');
        int times = star < 0 ? 1 : Integer.parseInt(word.substring(0, star));
        String one = word.substring(star + 1);
        for (int i = 0; i < times; i++) {
            if (one.startsWith("'")) {
                for (char letter : one.substring(1, one.length() - 1).toCharArray()) {
                    call("letter(" + (int) letter + ")");
                }
            } else {
                call(one);
            }
        }
        ahead.append(word).append(' ');
    }

    private void call(String told) {
        int is = told.indexOf('=');
        String call = is < 0 ? told : told.substring(0, is);
        long got = answer(x, call);
        made++;
        long due = is < 0 ? got : number(told.substring(is + 1));
        c.due(ahead + call, got, due);
        int refusal = refusalOf(due);
        if (is < 0) {
            c.due(ahead + call + " is not refused", refusal, 0);
        }
        if (refusal > 0) {
            refused[refusal]++;
        } else if (call.equals("well()") && due < 0) {
            held.removeIf(h -> h.startsWith("letter("));
        } else {
            held.add(call);
            if (call.equals("well()")) {
                held.replaceAll(h -> h.startsWith("letter(") ? "!" + h : h);
            }
        }
    }

    private void end() {
        ComesUpAsAQuestion twin = new ComesUpAsAQuestion();
        for (String call : held) {
            answer(twin, call.startsWith("!") ? call.substring(1) : call);
        }
        String seen = Check.seen(x);
        String due = Check.seen(twin);
        c.due(ahead + "leaves [" + seen + "], due is [" + due + "]", seen.equals(due) ? 1 : 0, 1);
        for (int i = 1; i <= COUNTS_OF_REFUSALS; i++) {
            c.due(ahead + "count(" + (10 + i) + ")", x.count(10 + i), refused[i]);
            c.due(ahead + "count(" + (10 + i) + ") of the twin", twin.count(10 + i), 0);
        }
        made += COUNTS_OF_REFUSALS + seen.split(" ").length;
        if (made > MOST_CALLS) {
            throw new IllegalStateException("a test makes " + made + " calls: " + ahead);
        }
    }

    private static int refusalOf(long answer) {
        if (answer >= -COUNTS_OF_REFUSALS && answer < 0) {
            return (int) -answer;
        }
        return answer > LONG_REFUSAL && answer <= LONG_REFUSAL + COUNTS_OF_REFUSALS ? (int) (answer - LONG_REFUSAL) : 0;
    }

    private static long number(String s) {
        switch (s) {
            case "MIN": return Integer.MIN_VALUE;
            case "MAX": return Integer.MAX_VALUE;
            default: return s.startsWith("L") ? LONG_REFUSAL + Long.parseLong(s.substring(1)) : Long.parseLong(s);
        }
    }

    private static long answer(ComesUpAsAQuestion x, String call) {
        String name = call.substring(0, call.indexOf('('));
        String inside = call.substring(name.length() + 1, call.length() - 1);
        String[] told = inside.isEmpty() ? new String[0] : inside.split(",");
        Object[] args = new Object[told.length];
        for (int i = 0; i < told.length; i++) {
            args[i] = (int) number(told[i]);
        }
        for (Method m : ComesUpAsAQuestion.class.getMethods()) {
            if (m.getName().equals(name) && m.getParameterCount() == args.length) {
                try {
                    return ((Number) m.invoke(x, args)).longValue();
                } catch (InvocationTargetException | IllegalAccessException e) {
                    throw new IllegalStateException(call, e);
                }
            }
        }
        throw new IllegalArgumentException("no call " + call);
    }
}
