import java.lang.reflect.Method;
import java.lang.reflect.Modifier;
import java.util.ArrayList;
import java.util.Arrays;
import java.util.List;

/**
 * Every call with every number at an edge, in every place of its arguments, on objects with nothing there, with
 * something there and with all places taken: its answer and all that can be seen behind it, as the oracle's.
 */
public final class EdgeGridTest {
    private static final Check c = new Check();
    private static final int CALLS_OF_ONE = 15;
    private static final String[] STATES = {
        "",
        "p0001;",
        "p1129;p0000;o3;ts00;tb81;th30;d02;",
        "p0255;p9001;p2254;p0000;p1015;tb04;tp91;tc72;ts33;th90;tr80;ts04;tb90;tc04;o9;d03;",
    };
    private static final int[] PLACES = {-1, 0, 1, 4, 5, 8, 9};
    private static final int[] DIGITS = {-1, 0, 3, 9, 10};
    private static final int[] WHATS = {-1, 0, 1, 2};
    private static final int[] FAR = {-1, 0, 1, 98, 99, 100};
    private static final int[] ADVICE = {0, 1, 2, 39, 40, 41};

    private static int[] edges(String name, int place) {
        switch (name + place) {
            case "letter0": return new int[] {-1, 0, 254, 255, 256};
            case "days0": return new int[] {-1, 0, 1, 59, 60, 61};
            case "thingThen1":
            case "askThen0":
            case "runs0":
            case "row0": return FAR;
            case "teach0":
            case "bold0":
            case "keepOut0":
            case "again0":
            case "drop2":
            case "two2": return ADVICE;
            case "shy1":
            case "drought0":
            case "turn2":
            case "drop1": return DIGITS;
            case "turn1":
            case "drop0": return new int[] {-1, 0, 5, 6};
            case "person1":
            case "first0": return new int[] {-1, 0, 1, 2, 3, 4};
            case "thing1":
            case "learns1":
            case "knower0": return new int[] {-1, 0, 1, 2, 3, 4, 5, 6, 7, 8, 32};
            case "cold0": return new int[] {-1, 0, 1, 7, 8};
            case "cold1": return new int[] {-1, 0, 1, 2, 20, 21};
            case "lots0": return new int[] {-1, 0, 1, 20, 21};
            case "lots1": return new int[] {-1, 0, 1, 7};
            case "count0": return new int[] {-1, 0, 1, 2, 3, 4, 5, 6, 7, 8, 10, 11, 12, 13, 14, 15, 16, 17};
            default: return name.matches("fewest|alike|mean") || place > 0 && !name.equals("two") ? WHATS : PLACES;
        }
    }

    private static int[] withFarthest(int[] edges) {
        int[] all = Arrays.copyOf(edges, edges.length + 2);
        all[edges.length] = Integer.MIN_VALUE;
        all[edges.length + 1] = Integer.MAX_VALUE;
        return all;
    }

    private static void combine(List<Object[]> all, String name, Object[] args, int place) {
        if (place == args.length) {
            all.add(args.clone());
            return;
        }
        for (int v : withFarthest(edges(name, place))) {
            args[place] = v;
            combine(all, name, args, place + 1);
        }
    }

    private ComesUpAsAQuestion x;
    private Oracle y;
    private final String state;
    private final boolean full;
    private int left = 0;

    private EdgeGridTest(String state, boolean full) {
        this.state = state;
        this.full = full;
    }

    /** A new pair; if full, on the last DAY, with no room for a number or a letter, and with an image. */
    private void begin() {
        x = new ComesUpAsAQuestion();
        y = new Oracle();
        for (char letter : state.toCharArray()) {
            x.letter(letter);
            y.letter(letter);
        }
        x.well();
        y.well();
        if (full) {
            for (int day = y.count(2); day < 999; day = y.count(2)) {
                x.days(Math.min(60, 999 - day));
                y.days(Math.min(60, 999 - day));
            }
            for (int i = 0; i < 9; i++) {
                x.drops(i);
                y.drops(i);
            }
            for (int i = 0; i < 16; i++) {
                x.row(i < 3 ? 1 : 0);
                y.row(i < 3 ? 1 : 0);
            }
            for (int i = 0; i < 96; i++) {
                x.letter(i);
                y.letter(i);
            }
            x.image();
            y.image();
        }
        left = CALLS_OF_ONE;
    }

    private void one(Method call, Method due, Object[] args) throws ReflectiveOperationException {
        if (left == 0) {
            begin();
        }
        String name = "\"" + state + "\"" + (full ? " full: " : ": ") + call.getName() + Arrays.toString(args);
        long want = ((Number) due.invoke(y, args)).longValue();
        c.due(name, ((Number) call.invoke(x, args)).longValue(), want);
        for (int what = 0; what <= 16; what += what == 7 ? 4 : 1) {
            c.due(name + ", behind it count(" + what + ")", x.count(what), y.count(what));
        }
        boolean refused = want < 0 && want > -7 || want > 4000000000000000000L;
        left = refused ? left - 1 : 0;
    }

    private void all() throws ReflectiveOperationException {
        for (Method call : ComesUpAsAQuestion.class.getDeclaredMethods()) {
            if (Modifier.isPublic(call.getModifiers())) {
                Method due = Oracle.class.getMethod(call.getName(), call.getParameterTypes());
                List<Object[]> args = new ArrayList<>();
                combine(args, call.getName(), new Object[call.getParameterCount()], 0);
                left = 0;
                for (Object[] a : args) {
                    one(call, due, a);
                }
            }
        }
    }

    public static void main(String[] args) throws ReflectiveOperationException {
        for (String state : STATES) {
            new EdgeGridTest(state, false).all();
            new EdgeGridTest(state, true).all();
        }
        c.end();
    }
}
