import java.math.BigInteger;
import java.util.ArrayList;
import java.util.HashSet;
import java.util.List;
import java.util.Set;
import java.util.function.Consumer;
import java.util.regex.Matcher;
import java.util.regex.Pattern;

/** The document written down a second time, as plainly as the whole library allows, to compare the class with. */
public final class Oracle {
    private static class Stone {
        int weight;
        int who;
        int wait;
        int left;
        int rise(int drought) { return weight / 3 + 1; }
        int topic() { return weight % 8; }
        int times() { return 1; }
        int number() { return 0; }
        boolean asks() { return wait == 0 && left > 0; }
    }

    private static class Ring extends Stone {
        @Override int rise(int drought) { return super.rise(drought) + 1; }
        @Override int number() { return 1; }
    }

    private static class Cat extends Stone {
        @Override int topic() { return 7 - super.topic(); }
        @Override int times() { return super.times() + 1; }
        @Override int number() { return 2; }
    }

    private static class Hat extends Cat {
        @Override int rise(int drought) { return super.rise(drought) + drought; }
        @Override int number() { return 3; }
    }

    private static class Penny extends Ring {
        @Override int rise(int drought) { return 2 * super.rise(drought); }
        @Override int times() { return super.times() + weight / 4; }
        @Override int number() { return 4; }
    }

    private static class Bishop extends Hat {
        @Override int topic() { return 0; }
        @Override int times() { return 2 * super.times(); }
        @Override int number() { return 5; }
    }

    private static Stone make(int kind) {
        return switch (kind) {
            case 0 -> new Stone();
            case 1 -> new Ring();
            case 2 -> new Cat();
            case 3 -> new Hat();
            case 4 -> new Penny();
            default -> new Bishop();
        };
    }

    private static final class Person {
        Set<Integer> knows = new HashSet<>();
        int shy;
        int answered;
    }

    private static final class World {
        List<Person> people = new ArrayList<>();
        List<Stone> things = new ArrayList<>();
        int day;
        int drought;

        World copy() {
            World w = new World();
            w.day = day;
            w.drought = drought;
            for (Person p : people) {
                Person q = new Person();
                q.knows.addAll(p.knows);
                q.shy = p.shy;
                q.answered = p.answered;
                w.people.add(q);
            }
            for (Stone t : things) {
                w.things.add(as(t, t.number(), t.weight));
            }
            return w;
        }

        static Stone as(Stone t, int kind, int weight) {
            Stone u = make(kind);
            u.weight = weight;
            u.who = t.who;
            u.wait = t.wait;
            u.left = t.left;
            return u;
        }

        void anew(Stone t) {
            t.wait = t.rise(drought);
            t.left = t.times();
        }

        void answer(Stone t) {
            t.left--;
            people.get(t.who).answered = Math.min(999, people.get(t.who).answered + 1);
        }

        boolean known(Stone t) {
            return people.get(t.who).knows.contains(t.topic());
        }

        World day(boolean cold) {
            day++;
            things.stream().filter(t -> t.wait > 0).forEach(t -> t.wait--);
            for (int p = 0; p < people.size(); p++) {
                int me = p;
                if (!cold && day % (people.get(p).shy + 1) == 0) {
                    things.stream().filter(t -> t.who == me && t.asks() && known(t)).findFirst().ifPresent(this::answer);
                }
            }
            return this;
        }

        World after(int n) {
            World w = copy();
            for (int d = 0; d < n; d++) {
                w.day(false);
            }
            return w;
        }

        boolean water() {
            return things.stream().noneMatch(Stone::asks);
        }

        int bits() {
            int b = 0;
            for (int i = 0; i < things.size(); i++) {
                b += things.get(i).asks() ? 1 << i : 0;
            }
            return b;
        }

        int queue(int p) {
            return things.stream().filter(t -> t.who == p).mapToInt(t -> t.left).sum();
        }

        int left() {
            return things.stream().mapToInt(t -> t.left).sum();
        }

        int waterDays(int n) {
            World w = copy();
            int many = 0;
            for (int d = 1; d <= n; d++) {
                many += w.day(false).water() ? 1 : 0;
            }
            return many;
        }

        int waterDaysIf(int n, Consumer<World> change) {
            World w = copy();
            change.accept(w);
            return w.waterDays(n);
        }

        int quiet(int i) {
            World w = copy();
            for (int d = 0; d <= 99; d++) {
                if (w.things.get(i).left == 0) {
                    return d;
                }
                w.day(false);
            }
            return -9;
        }

        int bitsOfKnown(int p) {
            return people.get(p).knows.stream().mapToInt(k -> 1 << k).sum();
        }
    }

    private World now = new World();
    private World kept = null;
    private StringBuilder text = new StringBuilder();
    private final List<Integer> numbers = new ArrayList<>();
    private final int[] refused = new int[7];

    private int no(int number) {
        refused[-number]++;
        return number;
    }

    private long noLong(int number) {
        return 4000000000000000000L - no(number);
    }

    private boolean nobody(int p) {
        return p < 0 || p >= now.people.size();
    }

    private boolean nothing(int t) {
        return t < 0 || t >= now.things.size();
    }

    public int letter(int c) {
        if (c < 0) return no(-4);
        if (c > 255 || text.length() == 96) return no(-6);
        text.append((char) c);
        return text.length();
    }

    private static final String STATEMENT = "(p\\d{4};|t[srchpb]\\d\\d;|a\\d;|k\\d\\d;|o\\d;|d\\d\\d;)";

    public int well() {
        String s = text.toString();
        text = new StringBuilder();
        if (!s.matches(STATEMENT + "+")) {
            return -1000 - longestStart(s);
        }
        World w = now.copy();
        Matcher m = Pattern.compile(STATEMENT).matcher(s);
        int many = 0;
        while (m.find()) {
            if (!comes(w, m.group())) {
                return -2000 - m.start();
            }
            many++;
        }
        now = w;
        return many;
    }

    /** How many letters some well begins with: each start of the text is looked at by itself. */
    private static int longestStart(String s) {
        for (int n = s.length(); n > 0; n--) {
            Matcher m = Pattern.compile(STATEMENT + "*").matcher(s.substring(0, n));
            if (m.matches() || m.hitEnd() && beginsSome(s.substring(0, n))) {
                return n;
            }
        }
        return 0;
    }

    private static boolean beginsSome(String start) {
        for (String tail : new String[] {"0000;", "000;", "00;", "0;", ";", "s00;"}) {
            if ((start + tail).matches(STATEMENT + "+")) {
                return true;
            }
        }
        return false;
    }

    private static boolean comes(World w, String s) {
        int a = s.charAt(1) - '0';
        int b = s.length() > 3 ? s.charAt(2) - '0' : 0;
        switch (s.charAt(0)) {
            case 'p':
                int known = Integer.parseInt(s.substring(2, 5));
                if (known > 255 || w.people.size() == 5) return false;
                Person p = new Person();
                p.shy = a;
                for (int k = 0; k < 8; k++) {
                    if ((known & 1 << k) != 0) p.knows.add(k);
                }
                return w.people.add(p);
            case 't':
                if (w.things.size() == 9 || s.charAt(3) - '0' >= w.people.size()) return false;
                w.things.add(thingOf(w, "srchpb".indexOf(s.charAt(1)), b, s.charAt(3) - '0'));
                return true;
            case 'a':
                if (a >= w.things.size()) return false;
                w.anew(w.things.get(a));
                return true;
            case 'k':
                if (a >= w.people.size() || b > 7) return false;
                if (!w.people.get(a).knows.remove(b)) w.people.get(a).knows.add(b);
                return true;
            case 'o':
                w.drought = a;
                return true;
            default:
                int n = 10 * a + b;
                if (n < 1 || n > 60 || w.day + n > 999) return false;
                for (int d = 0; d < n; d++) w.day(false);
                return true;
        }
    }

    private static Stone thingOf(World w, int kind, int weight, int who) {
        Stone t = make(kind);
        t.weight = weight;
        t.who = who;
        w.anew(t);
        return t;
    }

    public int person(int person, int what) {
        if (nobody(person)) return no(-1);
        Person p = now.people.get(person);
        return switch (what) {
            case 0 -> now.bitsOfKnown(person);
            case 1 -> p.shy;
            case 2 -> p.answered;
            case 3 -> now.queue(person);
            default -> no(-2);
        };
    }

    public int thing(int thing, int what) {
        if (nothing(thing)) return no(-1);
        Stone t = now.things.get(thing);
        return switch (what) {
            case 0 -> t.number();
            case 1 -> t.weight;
            case 2 -> t.who;
            case 3 -> t.wait;
            case 4 -> t.left;
            case 5 -> t.topic();
            case 6 -> t.asks() ? 1 : 0;
            default -> no(-2);
        };
    }

    public int drops(int thing) {
        if (nothing(thing)) return no(-1);
        now.anew(now.things.get(thing));
        return now.things.get(thing).wait;
    }

    public int learns(int person, int topic) {
        if (nobody(person) || topic < 0 || topic > 7) return no(-1);
        if (now.people.get(person).knows.remove(topic)) return 0;
        now.people.get(person).knows.add(topic);
        return 1;
    }

    public int shy(int person, int v) {
        if (nobody(person)) return no(-1);
        if (v < 0) return no(-4);
        if (v > 9) return no(-6);
        int was = now.people.get(person).shy;
        now.people.get(person).shy = v;
        return was;
    }

    public int drought(int v) {
        if (v < 0) return no(-4);
        if (v > 9) return no(-6);
        int was = now.drought;
        now.drought = v;
        return was;
    }

    public int turn(int thing, int kind, int weight) {
        if (nothing(thing)) return no(-1);
        if (kind < 0 || kind > 5) return no(-2);
        if (weight < 0) return no(-4);
        if (weight > 9) return no(-6);
        Stone was = now.things.set(thing, World.as(now.things.get(thing), kind, weight));
        return 10 * was.number() + was.weight;
    }

    public int answers(int thing) {
        if (nothing(thing)) return no(-1);
        Stone t = now.things.get(thing);
        if (!t.asks() || !now.known(t)) return no(-3);
        now.answer(t);
        return t.left;
    }

    public int days(int n) {
        if (n < 1) return no(-4);
        if (n > 60 || now.day + n > 999) return no(-6);
        now = now.after(n);
        return now.water() ? 1 : 0;
    }

    public int thingThen(int thing, int n, int what) {
        if (nothing(thing)) return no(-1);
        if (n < 0) return no(-4);
        if (n > 99) return no(-6);
        if (what != 0 && what != 1) return no(-2);
        Stone t = now.after(n).things.get(thing);
        return what == 0 ? t.wait : t.left;
    }

    public int askThen(int n, int what) {
        if (n < 0) return no(-4);
        if (n > 99) return no(-6);
        if (what != 0 && what != 1) return no(-2);
        World w = now.after(n);
        return what == 0 ? w.bits() : w.water() ? 1 : 0;
    }

    public int quiet(int thing) {
        return nothing(thing) ? no(-1) : now.quiet(thing);
    }

    public int first(int what) {
        if (what < 0 || what > 3) return no(-2);
        if (what == 3) return blocks();
        World w = now.copy();
        for (int d = 0; d <= 99; d++) {
            if (what == 0 && !w.water() || what == 1 && w.water() || what == 2 && w.left() == 0) return d;
            w.day(false);
        }
        return -9;
    }

    private int blocks() {
        int best = -9;
        int last = -1;
        for (int i = 0; i < now.things.size(); i++) {
            int q = now.quiet(i) == -9 ? 1000 : now.quiet(i);
            if (now.things.get(i).asks() && q > last) {
                last = q;
                best = i;
            }
        }
        return best;
    }

    public int runs(int n, int what) {
        if (n < 1) return no(-4);
        if (n > 99) return no(-6);
        if (what != 0 && what != 1) return no(-2);
        if (what == 0) return now.waterDays(n);
        StringBuilder s = new StringBuilder();
        for (int d = 1; d <= n; d++) {
            s.append(now.after(d).water() ? 'w' : ' ');
        }
        int longest = 0;
        for (String run : s.toString().trim().split(" +")) {
            longest = Math.max(longest, run.length());
        }
        return longest;
    }

    public int never() {
        int b = 0;
        for (int i = 0; i < now.things.size(); i++) {
            Stone t = now.things.get(i);
            b += t.left > 0 && !now.known(t) ? 1 << i : 0;
        }
        return b;
    }

    public int busiest() {
        int best = -9;
        for (int p = now.people.size() - 1; p >= 0; p--) {
            if (best == -9 || now.queue(p) >= now.queue(best)) best = p;
        }
        return best;
    }

    public int teach(int n) {
        if (n < 1) return no(-4);
        if (n > 40) return no(-6);
        int best = -9;
        int most = now.waterDays(n);
        for (int code = 0; code < 10 * now.people.size(); code++) {
            int p = code / 10;
            int k = code % 10;
            int water = k > 7 ? -1 : now.waterDaysIf(n, w -> w.people.get(p).knows.add(k));
            if (water > most) {
                most = water;
                best = code;
            }
        }
        return best;
    }

    public int bold(int n) {
        if (n < 1) return no(-4);
        if (n > 40) return no(-6);
        int best = -9;
        int most = now.waterDays(n);
        for (int i = 0; i < now.people.size(); i++) {
            int p = i;
            int water = now.waterDaysIf(n, w -> w.people.get(p).shy = 0);
            if (water > most) {
                most = water;
                best = p;
            }
        }
        return best;
    }

    public int fewest(int what) {
        if (what != 0 && what != 1) return no(-2);
        Set<Integer> lessons = new HashSet<>();
        for (Stone t : now.things) {
            if (t.left > 0 && !now.known(t)) lessons.add(10 * t.who + t.topic());
        }
        if (what == 0) return lessons.size();
        int best = -9;
        long most = 0;
        for (int i = 0; i < now.people.size(); i++) {
            int p = i;
            long many = lessons.stream().filter(l -> l / 10 == p).count();
            if (many > most) {
                most = many;
                best = p;
            }
        }
        return best;
    }

    public int keepOut(int n) {
        if (n < 1) return no(-4);
        if (n > 40) return no(-6);
        int best = -9;
        int most = now.waterDays(n);
        for (int i = 0; i < now.things.size(); i++) {
            int t = i;
            int water = now.waterDaysIf(n, w -> w.things.get(t).left = 0);
            if (water > most) {
                most = water;
                best = t;
            }
        }
        return best;
    }

    public int drop(int kind, int weight, int n, int what) {
        if (kind < 0 || kind > 5) return no(-2);
        if (weight < 0 || n < 1) return no(-4);
        if (weight > 9 || n > 40) return no(-6);
        if (what != 0 && what != 1) return no(-2);
        if (now.things.size() == 9) return -9;
        int best = -9;
        int least = 1000;
        for (int i = 0; i < now.people.size(); i++) {
            int p = i;
            int water = now.waterDaysIf(n, w -> w.things.add(thingOf(w, kind, weight, p)));
            if (water < least) {
                least = water;
                best = p;
            }
        }
        return what == 0 || best == -9 ? best : least;
    }

    public int again(int n) {
        if (n < 1) return no(-4);
        if (n > 40) return no(-6);
        int best = -9;
        int least = now.waterDays(n);
        for (int i = 0; i < now.things.size(); i++) {
            int t = i;
            int water = now.waterDaysIf(n, w -> w.anew(w.things.get(t)));
            if (water < least) {
                least = water;
                best = t;
            }
        }
        return best;
    }

    public int hardest() {
        int best = -9;
        for (int i = now.things.size() - 1; i >= 0; i--) {
            if (best == -9 || now.things.get(i).times() >= now.things.get(best).times()) best = i;
        }
        return best;
    }

    public int topics() {
        return now.things.stream().filter(Stone::asks).mapToInt(t -> 1 << t.topic()).distinct().sum();
    }

    public int alike(int what) {
        if (what != 0 && what != 1) return no(-2);
        List<Integer> twos = new ArrayList<>();
        for (int code = 0; code < 100; code++) {
            int i = code / 10;
            int j = code % 10;
            if (i < j && j < now.things.size() && now.things.get(i).topic() == now.things.get(j).topic()) twos.add(code);
        }
        return what == 0 ? twos.size() : twos.isEmpty() ? -9 : twos.get(0);
    }

    public int knower(int topic) {
        if (topic < 0 || topic > 7) return no(-1);
        int best = -9;
        for (int p = now.people.size() - 1; p >= 0; p--) {
            Person q = now.people.get(p);
            if (q.knows.contains(topic) && (best == -9 || q.answered >= now.people.get(best).answered)) best = p;
        }
        return best;
    }

    public int truth() {
        return (int) now.things.stream().filter(now::known).count();
    }

    private int gain(int me, boolean silent, int other, boolean otherSilent, int n) {
        World w = now.copy();
        if (silent) w.people.get(me).knows.clear();
        if (otherSilent) w.people.get(other).knows.clear();
        return w.waterDays(n) - (!silent && w.after(n).queue(me) > 0 ? 3 : 0);
    }

    public int two(int a, int b, int n) {
        if (nobody(a) || nobody(b) || a == b) return no(-1);
        if (n < 1) return no(-4);
        if (n > 40) return no(-6);
        for (int pair : new int[] {0, 1, 10, 11}) {
            boolean x = pair / 10 == 1;
            boolean y = pair % 10 == 1;
            if (gain(a, x, b, y, n) >= gain(a, !x, b, y, n) && gain(b, y, a, x, n) >= gain(b, !y, a, x, n)) return pair;
        }
        return -9;
    }

    /** Above the line of t to the n. */
    private static BigInteger ways(World w, int n, int t) {
        if (n == 0) return w.water() ? BigInteger.ONE : BigInteger.ZERO;
        return ways(w.copy().day(true), n - 1, t).add(ways(w.copy().day(false), n - 1, t).multiply(BigInteger.valueOf(t - 1)));
    }

    private static long part(BigInteger above, BigInteger below, int part) {
        BigInteger g = above.gcd(below);
        return (part == 0 ? above : below).divide(g).longValueExact();
    }

    public long cold(int n, int t, int part) {
        if (n < 0 || t < 2) return noLong(-4);
        if (n > 7 || t > 20) return noLong(-6);
        if (part != 0 && part != 1) return noLong(-2);
        return part(ways(now, n, t), BigInteger.valueOf(t).pow(n), part);
    }

    public long mean(int part) {
        if (part != 0 && part != 1) return noLong(-2);
        if (now.things.isEmpty()) return part;
        return part(BigInteger.valueOf(now.left()), BigInteger.valueOf(now.things.size()), part);
    }

    public int whatWas(int thing, int what) {
        if (nothing(thing)) return no(-1);
        if (what != 0 && what != 1) return no(-2);
        int bits = 0;
        Stone is = now.things.get(thing);
        for (int x = 0; x < (what == 0 ? 6 : 10); x++) {
            World w = now.copy();
            w.things.set(thing, World.as(is, what == 0 ? x : is.number(), what == 0 ? is.weight : x));
            w.anew(w.things.get(thing));
            boolean so = true;
            for (int d = 0; d < numbers.size(); d++) {
                so &= w.after(d).things.get(thing).left == numbers.get(d);
            }
            bits += so ? 1 << x : 0;
        }
        return bits;
    }

    public int row(int v) {
        if (v < 0) return no(-4);
        if (v > 99 || numbers.size() == 16) return no(-6);
        numbers.add(v);
        return numbers.size();
    }

    public int judge() {
        int answer = -9;
        for (int d = numbers.size() - 1; d >= 0; d--) {
            if (now.after(d).things.stream().filter(Stone::asks).count() != numbers.get(d)) answer = d;
        }
        numbers.clear();
        return answer;
    }

    public int clear() {
        int was = numbers.size();
        numbers.clear();
        return was;
    }

    public int lots(int n, int z, int what) {
        if (n < 1) return no(-4);
        if (n > 20) return no(-6);
        if (what != 0 && what != 1) return no(-2);
        if (now.people.isEmpty()) return no(-3);
        int days = 0;
        int answered = 0;
        for (int i = 0; i < n; i++) {
            World w = now.copy();
            for (Stone t : w.things) {
                z = (int) (z * 1664525L + 1013904223L);
                t.who = ((z << 1) >>> 1) / 256 % w.people.size();
                w.anew(t);
            }
            days += w.waterDays(15);
            answered += w.after(15).people.stream().mapToInt(p -> p.answered).sum()
                - w.people.stream().mapToInt(p -> p.answered).sum();
        }
        return what == 0 ? days : answered;
    }

    public int image() {
        kept = now.copy();
        return now.day;
    }

    public int on() {
        if (kept == null) return no(-3);
        now = kept.copy();
        return now.day;
    }

    public int count(int what) {
        return switch (what) {
            case 0 -> now.people.size();
            case 1 -> now.things.size();
            case 2 -> now.day;
            case 3 -> now.bits();
            case 4 -> now.left();
            case 5 -> now.drought;
            case 6 -> numbers.size();
            case 7 -> text.length();
            case 11, 12, 13, 14, 15, 16 -> refused[what - 10];
            default -> -9;
        };
    }
}
