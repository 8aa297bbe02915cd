/** Things let fall into a well rise again as questions; README.md tells how to use it. */
public final class ComesUpAsAQuestion {
    private static final int MOST_PEOPLE = 5;
    private static final int MOST_THINGS = 9;
    private static final int MOST_TOPICS = 8;
    private static final int MOST_KNOWN = 255;
    private static final int MOST_DIGIT = 9;
    private static final int MOST_ANSWERED = 999;
    private static final int LAST_DAY = 999;
    private static final int MOST_DAYS_AT_ONCE = 60;
    private static final int MOST_LETTERS = 96;
    private static final int GREATEST_LETTER = 255;
    private static final int FARTHEST = 99;
    private static final int FARTHEST_ADVICE = 40;
    private static final int MOST_COLD_DAYS = 7;
    private static final int LEAST_ODDS = 2;
    private static final int MOST_ODDS = 20;
    private static final int MOST_IN_ROW = 16;
    private static final int GREATEST_IN_ROW = 99;
    private static final int MOST_LOTS = 20;
    private static final int DAYS_OF_A_LOT = 15;
    private static final int WITHOUT_SIGN = 0x7fffffff;

    private static final int STONE = 0;
    private static final int RING = 1;
    private static final int CAT = 2;
    private static final int HAT = 3;
    private static final int PENNY = 4;
    private static final int BISHOP = 5;
    private static final int KINDS = 6;

    private static final int NOBODY = -1;
    private static final int OTHER = -2;
    private static final int STATE = -3;
    private static final int BELOW = -4;
    private static final int ROOM = -6;
    private static final int FINE = 0;
    private static final int NONE = -9;
    private static final long LONG_REFUSAL = 4000000000000000000L;

    private static final int FAULT_OF_LETTERS = -1000;
    private static final int FAULT_OF_STATEMENTS = -2000;
    private static final int NO_PLACE = -1;

    private static final int FIRST_REFUSAL_COUNT = 11;
    private static final int LAST_REFUSAL_COUNT = 16;

    private final Well now = new Well();
    private final Well told = new Well();
    private final Well kept = new Well();
    private boolean hasImage = false;
    private final Letters letters = new Letters();
    private final Outlook outlook = new Outlook();
    private final Advice advice = new Advice();
    private final Chances chances = new Chances();
    private final Row numbers = new Row();
    private final int[] refusals = new int[7];

    public ComesUpAsAQuestion() {
    }

    public int letter(int c) {
        if (c < 0) {
            return refuse(BELOW);
        }
        if (c > GREATEST_LETTER || !letters.take(c)) {
            return refuse(ROOM);
        }
        return letters.size;
    }

    public int well() {
        int answer = letters.statements();
        int wrongLetter = letters.wrongLetter();
        // Tried beside first: with a fault in a late statement the early ones must not have come.
        told.becomes(now);
        int wrongStatement = wrongLetter == NO_PLACE ? letters.wrongStatement(told) : NO_PLACE;
        if (wrongLetter != NO_PLACE) {
            answer = FAULT_OF_LETTERS - wrongLetter;
        } else if (wrongStatement != NO_PLACE) {
            answer = FAULT_OF_STATEMENTS - wrongStatement;
        } else {
            now.becomes(told);
        }
        letters.size = 0;
        return answer;
    }

    public int person(int person, int what) {
        if (!now.isPerson(person)) {
            return refuse(NOBODY);
        }
        switch (what) {
            case 0: return now.knows[person];
            case 1: return now.shyness[person];
            case 2: return now.answered[person];
            case 3: return now.queueOf(person);
            default: return refuse(OTHER);
        }
    }

    public int thing(int thing, int what) {
        if (!now.isThing(thing)) {
            return refuse(NOBODY);
        }
        switch (what) {
            case 0: return now.kind[thing];
            case 1: return now.weight[thing];
            case 2: return now.dropper[thing];
            case 3: return now.wait[thing];
            case 4: return now.left[thing];
            case 5: return now.topicOf(thing);
            case 6: return now.asks(thing) ? 1 : 0;
            default: return refuse(OTHER);
        }
    }

    public int drops(int thing) {
        if (!now.fall(thing)) {
            return refuse(NOBODY);
        }
        return now.wait[thing];
    }

    public int learns(int person, int topic) {
        if (!now.learnOrForget(person, topic)) {
            return refuse(NOBODY);
        }
        return now.knows[person] >> topic & 1;
    }

    public int shy(int person, int v) {
        if (!now.isPerson(person)) {
            return refuse(NOBODY);
        }
        int bad = outside(v, 0, MOST_DIGIT);
        if (bad != FINE) {
            return refuse(bad);
        }
        int before = now.shyness[person];
        now.shyness[person] = v;
        return before;
    }

    public int drought(int v) {
        int bad = outside(v, 0, MOST_DIGIT);
        if (bad != FINE) {
            return refuse(bad);
        }
        int before = now.dryness;
        now.dryness = v;
        return before;
    }

    public int turn(int thing, int kind, int weight) {
        if (!now.isThing(thing)) {
            return refuse(NOBODY);
        }
        if (!isKind(kind)) {
            return refuse(OTHER);
        }
        int bad = outside(weight, 0, MOST_DIGIT);
        if (bad != FINE) {
            return refuse(bad);
        }
        int before = 10 * now.kind[thing] + now.weight[thing];
        now.kind[thing] = kind;
        now.weight[thing] = weight;
        return before;
    }

    public int answers(int thing) {
        if (!now.isThing(thing)) {
            return refuse(NOBODY);
        }
        if (!now.asks(thing) || !now.dropperKnows(thing)) {
            return refuse(STATE);
        }
        now.answerOnce(thing);
        return now.left[thing];
    }

    public int days(int n) {
        if (n < 1) {
            return refuse(BELOW);
        }
        if (!now.passDays(n)) {
            return refuse(ROOM);
        }
        return now.hasWater() ? 1 : 0;
    }

    public int thingThen(int thing, int n, int what) {
        if (!now.isThing(thing)) {
            return refuse(NOBODY);
        }
        int bad = outsideOrOther(n, 0, FARTHEST, what, 1);
        if (bad != FINE) {
            return refuse(bad);
        }
        Well then = outlook.after(now, n);
        return what == 0 ? then.wait[thing] : then.left[thing];
    }

    public int askThen(int n, int what) {
        int bad = outsideOrOther(n, 0, FARTHEST, what, 1);
        if (bad != FINE) {
            return refuse(bad);
        }
        Well then = outlook.after(now, n);
        if (what == 0) {
            return then.askBits();
        }
        return then.hasWater() ? 1 : 0;
    }

    public int quiet(int thing) {
        if (!now.isThing(thing)) {
            return refuse(NOBODY);
        }
        return outlook.quietAfter(now, thing);
    }

    public int first(int what) {
        switch (what) {
            case 0: return outlook.waterAfter(now, false);
            case 1: return outlook.waterAfter(now, true);
            case 2: return outlook.allQuietAfter(now);
            case 3: return outlook.inTheWay(now);
            default: return refuse(OTHER);
        }
    }

    public int runs(int n, int what) {
        int bad = outsideOrOther(n, 1, FARTHEST, what, 1);
        if (bad != FINE) {
            return refuse(bad);
        }
        return what == 0 ? outlook.waterDays(now, n) : outlook.longestWater(now, n);
    }

    public int never() {
        return now.neverBits();
    }

    public int busiest() {
        int best = NONE;
        int most = -1;
        for (int p = 0; p < now.people; p++) {
            int queue = now.queueOf(p);
            if (queue > most) {
                most = queue;
                best = p;
            }
        }
        return best;
    }

    public int teach(int n) {
        int bad = outside(n, 1, FARTHEST_ADVICE);
        return bad != FINE ? refuse(bad) : advice.bestLesson(now, n);
    }

    public int bold(int n) {
        int bad = outside(n, 1, FARTHEST_ADVICE);
        return bad != FINE ? refuse(bad) : advice.bestToEmbolden(now, n);
    }

    public int fewest(int what) {
        switch (what) {
            case 0: return now.lessonsOfAll();
            case 1: return now.neediest();
            default: return refuse(OTHER);
        }
    }

    public int keepOut(int n) {
        int bad = outside(n, 1, FARTHEST_ADVICE);
        return bad != FINE ? refuse(bad) : advice.bestWithout(now, n);
    }

    public int drop(int kind, int weight, int n, int what) {
        if (!isKind(kind)) {
            return refuse(OTHER);
        }
        if (weight < 0 || n < 1) {
            return refuse(BELOW);
        }
        if (weight > MOST_DIGIT || n > FARTHEST_ADVICE) {
            return refuse(ROOM);
        }
        if (what < 0 || what > 1) {
            return refuse(OTHER);
        }
        int who = advice.bestDropper(now, kind, weight, n);
        return what == 0 || who == NONE ? who : advice.waterWithOneMore(now, kind, weight, who, n);
    }

    public int again(int n) {
        int bad = outside(n, 1, FARTHEST_ADVICE);
        return bad != FINE ? refuse(bad) : advice.worstAnew(now, n);
    }

    public int hardest() {
        int best = NONE;
        int most = -1;
        for (int i = 0; i < now.things; i++) {
            int times = timesOf(now.kind[i], now.weight[i]);
            if (times > most) {
                most = times;
                best = i;
            }
        }
        return best;
    }

    public int topics() {
        int bits = 0;
        for (int i = 0; i < now.things; i++) {
            if (now.asks(i)) {
                bits |= 1 << now.topicOf(i);
            }
        }
        return bits;
    }

    public int alike(int what) {
        if (what < 0 || what > 1) {
            return refuse(OTHER);
        }
        return what == 0 ? now.twosAlike() : now.firstTwoAlike();
    }

    public int knower(int topic) {
        if (topic < 0 || topic >= MOST_TOPICS) {
            return refuse(NOBODY);
        }
        int best = NONE;
        int most = -1;
        for (int p = 0; p < now.people; p++) {
            if (now.isKnown(p, topic) && now.answered[p] > most) {
                most = now.answered[p];
                best = p;
            }
        }
        return best;
    }

    public int truth() {
        int known = 0;
        for (int i = 0; i < now.things; i++) {
            if (now.dropperKnows(i)) {
                known++;
            }
        }
        return known;
    }

    public int two(int a, int b, int n) {
        if (!now.isPerson(a) || !now.isPerson(b) || a == b) {
            return refuse(NOBODY);
        }
        int bad = outside(n, 1, FARTHEST_ADVICE);
        return bad != FINE ? refuse(bad) : advice.steadyPair(now, a, b, n);
    }

    public long cold(int n, int t, int part) {
        if (n < 0 || t < LEAST_ODDS) {
            return refuseLong(BELOW);
        }
        if (n > MOST_COLD_DAYS || t > MOST_ODDS) {
            return refuseLong(ROOM);
        }
        if (part < 0 || part > 1) {
            return refuseLong(OTHER);
        }
        return partOf(chances.waysToWater(now, n, t), power(t, n), part);
    }

    public long mean(int part) {
        if (part < 0 || part > 1) {
            return refuseLong(OTHER);
        }
        return partOf(now.leftOfAll(), Math.max(now.things, 1), part);
    }

    public int whatWas(int thing, int what) {
        if (!now.isThing(thing)) {
            return refuse(NOBODY);
        }
        switch (what) {
            case 0: return numbers.kindsThatFit(now, thing);
            case 1: return numbers.weightsThatFit(now, thing);
            default: return refuse(OTHER);
        }
    }

    public int row(int v) {
        if (v < 0) {
            return refuse(BELOW);
        }
        if (v > GREATEST_IN_ROW || !numbers.take(v)) {
            return refuse(ROOM);
        }
        return numbers.size;
    }

    public int judge() {
        int place = numbers.firstWrong(now);
        numbers.size = 0;
        return place;
    }

    public int clear() {
        int before = numbers.size;
        numbers.size = 0;
        return before;
    }

    public int lots(int n, int z, int what) {
        int bad = outsideOrOther(n, 1, MOST_LOTS, what, 1);
        if (bad != FINE) {
            return refuse(bad);
        }
        if (now.people == 0) {
            return refuse(STATE);
        }
        chances.drawLots(now, n, z);
        return what == 0 ? chances.lotWater : chances.lotAnswered;
    }

    public int image() {
        kept.becomes(now);
        hasImage = true;
        return now.date;
    }

    public int on() {
        if (!hasImage) {
            return refuse(STATE);
        }
        now.becomes(kept);
        return now.date;
    }

    public int count(int what) {
        switch (what) {
            case 0: return now.people;
            case 1: return now.things;
            case 2: return now.date;
            case 3: return now.askBits();
            case 4: return now.leftOfAll();
            case 5: return now.dryness;
            case 6: return numbers.size;
            case 7: return letters.size;
            default: return refusalsCounted(what);
        }
    }

    private int refusalsCounted(int what) {
        if (what < FIRST_REFUSAL_COUNT || what > LAST_REFUSAL_COUNT) {
            return NONE;
        }
        return refusals[what - FIRST_REFUSAL_COUNT + 1];
    }

    private int refuse(int number) {
        int place = -number;
        if (place > 0 && place < refusals.length) {
            refusals[place]++;
        }
        return number;
    }

    private long refuseLong(int number) {
        return LONG_REFUSAL - refuse(number);
    }

    private static int outside(int v, int least, int most) {
        if (v < least) {
            return BELOW;
        }
        return v > most ? ROOM : FINE;
    }

    private static int outsideOrOther(int v, int least, int most, int what, int lastWhat) {
        int bad = outside(v, least, most);
        if (bad != FINE) {
            return bad;
        }
        return what < 0 || what > lastWhat ? OTHER : FINE;
    }

    private static boolean isKind(int kind) {
        return kind >= STONE && kind < KINDS;
    }

    private static int riseOf(int kind, int weight, int dryness) {
        int ofStone = weight / 3 + 1;
        switch (kind) {
            case RING: return ofStone + 1;
            case PENNY: return 2 * (ofStone + 1);
            case HAT:
            case BISHOP: return ofStone + dryness;
            default: return ofStone;
        }
    }

    private static int timesOf(int kind, int weight) {
        switch (kind) {
            case CAT:
            case HAT: return 2;
            case PENNY: return 1 + weight / 4;
            case BISHOP: return 4;
            default: return 1;
        }
    }

    private static long power(int base, int exponent) {
        long product = 1;
        for (int i = 0; i < exponent; i++) {
            product *= base;
        }
        return product;
    }

    private static long partOf(long above, long below, int part) {
        long a = below;
        long b = above;
        // Euclid needs fewer rounds than a long has bits, times two.
        for (int i = 0; i < 128 && b != 0; i++) {
            long rest = a % b;
            a = b;
            b = rest;
        }
        long chosen = part == 0 ? above : below;
        return a > 0 ? chosen / a : chosen;
    }

    /** All that an image keeps, and how a day goes by in it. */
    private static final class Well {
        int people = 0;
        int things = 0;
        int date = 0;
        int dryness = 0;
        final int[] knows = new int[MOST_PEOPLE];
        final int[] shyness = new int[MOST_PEOPLE];
        final int[] answered = new int[MOST_PEOPLE];
        final int[] kind = new int[MOST_THINGS];
        final int[] weight = new int[MOST_THINGS];
        final int[] dropper = new int[MOST_THINGS];
        final int[] wait = new int[MOST_THINGS];
        final int[] left = new int[MOST_THINGS];

        void becomes(Well other) {
            people = other.people;
            things = other.things;
            date = other.date;
            dryness = other.dryness;
            System.arraycopy(other.knows, 0, knows, 0, MOST_PEOPLE);
            System.arraycopy(other.shyness, 0, shyness, 0, MOST_PEOPLE);
            System.arraycopy(other.answered, 0, answered, 0, MOST_PEOPLE);
            System.arraycopy(other.kind, 0, kind, 0, MOST_THINGS);
            System.arraycopy(other.weight, 0, weight, 0, MOST_THINGS);
            System.arraycopy(other.dropper, 0, dropper, 0, MOST_THINGS);
            System.arraycopy(other.wait, 0, wait, 0, MOST_THINGS);
            System.arraycopy(other.left, 0, left, 0, MOST_THINGS);
        }

        boolean isPerson(int p) {
            return p >= 0 && p < people && p < MOST_PEOPLE;
        }

        boolean isThing(int i) {
            return i >= 0 && i < things && i < MOST_THINGS;
        }

        boolean addPerson(int shy, int known) {
            if (people >= MOST_PEOPLE || known > MOST_KNOWN) {
                return false;
            }
            knows[people] = known;
            shyness[people] = shy;
            answered[people] = 0;
            people++;
            return true;
        }

        boolean addThing(int itsKind, int itsWeight, int by) {
            if (things >= MOST_THINGS || !isPerson(by)) {
                return false;
            }
            kind[things] = itsKind;
            weight[things] = itsWeight;
            dropper[things] = by;
            things++;
            return fall(things - 1);
        }

        boolean fall(int i) {
            if (!isThing(i)) {
                return false;
            }
            wait[i] = riseOf(kind[i], weight[i], dryness);
            left[i] = timesOf(kind[i], weight[i]);
            return true;
        }

        boolean learnOrForget(int p, int topic) {
            if (!isPerson(p) || topic < 0 || topic >= MOST_TOPICS) {
                return false;
            }
            knows[p] ^= 1 << topic;
            return true;
        }

        boolean passDays(int n) {
            if (n < 1 || n > MOST_DAYS_AT_ONCE || date + n > LAST_DAY) {
                return false;
            }
            for (int d = 0; d < n; d++) {
                passDay(true);
            }
            return true;
        }

        void passDay(boolean warm) {
            date++;
            for (int i = 0; i < things; i++) {
                if (wait[i] > 0) {
                    wait[i]--;
                }
            }
            for (int p = 0; warm && p < people; p++) {
                int every = shyness[p] + 1;
                if (every > 0 && date % every == 0) {
                    answerLeastOf(p);
                }
            }
        }

        private void answerLeastOf(int p) {
            for (int i = 0; i < things; i++) {
                if (dropper[i] == p && asks(i) && (knows[p] >> topicOf(i) & 1) == 1) {
                    answerOnce(i);
                    return;
                }
            }
        }

        void answerOnce(int i) {
            int by = dropper[i];
            left[i]--;
            if (by >= 0 && by < people && answered[by] < MOST_ANSWERED) {
                answered[by]++;
            }
        }

        /** Lets n days go by; how many of them have water when they are over. */
        int waterInPassing(int n) {
            int water = 0;
            for (int d = 0; d < n; d++) {
                passDay(true);
                if (hasWater()) {
                    water++;
                }
            }
            return water;
        }

        int topicOf(int i) {
            int ofStone = weight[i] % MOST_TOPICS;
            switch (kind[i]) {
                case CAT:
                case HAT: return MOST_TOPICS - 1 - ofStone;
                case BISHOP: return 0;
                default: return ofStone;
            }
        }

        boolean asks(int i) {
            return wait[i] == 0 && left[i] > 0;
        }

        int askBits() {
            int bits = 0;
            for (int i = 0; i < things; i++) {
                if (asks(i)) {
                    bits |= 1 << i;
                }
            }
            return bits;
        }

        boolean hasWater() {
            for (int i = 0; i < things; i++) {
                if (asks(i)) {
                    return false;
                }
            }
            return true;
        }

        boolean isKnown(int p, int topic) {
            return isPerson(p) && (knows[p] >> topic & 1) == 1;
        }

        boolean dropperKnows(int i) {
            return isKnown(dropper[i], topicOf(i));
        }

        int queueOf(int p) {
            int sum = 0;
            for (int i = 0; i < things; i++) {
                if (dropper[i] == p) {
                    sum += left[i];
                }
            }
            return sum;
        }

        int leftOfAll() {
            int sum = 0;
            for (int i = 0; i < things; i++) {
                sum += left[i];
            }
            return sum;
        }

        int answeredByAll() {
            int sum = 0;
            for (int p = 0; p < people; p++) {
                sum += answered[p];
            }
            return sum;
        }

        boolean isNeverAnswered(int i) {
            return left[i] > 0 && !dropperKnows(i);
        }

        int neverBits() {
            int bits = 0;
            for (int i = 0; i < things; i++) {
                if (isNeverAnswered(i)) {
                    bits |= 1 << i;
                }
            }
            return bits;
        }

        /** The topics that this one must learn so that nothing of his asks for ever. */
        int lessonBitsOf(int p) {
            int bits = 0;
            for (int i = 0; i < things; i++) {
                if (dropper[i] == p && isNeverAnswered(i)) {
                    bits |= 1 << topicOf(i);
                }
            }
            return bits;
        }

        int lessonsOfAll() {
            int sum = 0;
            for (int p = 0; p < people; p++) {
                sum += Integer.bitCount(lessonBitsOf(p));
            }
            return sum;
        }

        int neediest() {
            int best = NONE;
            int most = 0;
            for (int p = 0; p < people; p++) {
                int lessons = Integer.bitCount(lessonBitsOf(p));
                if (lessons > most) {
                    most = lessons;
                    best = p;
                }
            }
            return best;
        }

        int twosAlike() {
            int twos = 0;
            for (int i = 0; i < things; i++) {
                for (int j = i + 1; j < things; j++) {
                    if (topicOf(i) == topicOf(j)) {
                        twos++;
                    }
                }
            }
            return twos;
        }

        int firstTwoAlike() {
            for (int i = 0; i < things; i++) {
                for (int j = i + 1; j < things; j++) {
                    if (topicOf(i) == topicOf(j)) {
                        return 10 * i + j;
                    }
                }
            }
            return NONE;
        }
    }

    /** The text in which a well is told. */
    private static final class Letters {
        final int[] text = new int[MOST_LETTERS];
        int size = 0;

        boolean take(int c) {
            if (size >= MOST_LETTERS) {
                return false;
            }
            text[size] = c;
            size++;
            return true;
        }

        /** The place of the first letter with which no well can go on; the end, if something lacks. */
        int wrongLetter() {
            int head = 0;
            int inside = 0;
            for (int i = 0; i < size; i++) {
                int c = text[i];
                if (inside == 0) {
                    head = c;
                }
                if (!canStand(c, head, inside)) {
                    return i;
                }
                inside = inside == signsBehind(head) + 1 ? 0 : inside + 1;
            }
            return size == 0 || inside != 0 ? size : NO_PLACE;
        }

        private static boolean canStand(int c, int head, int inside) {
            if (inside == 0) {
                return signsBehind(head) > 0;
            }
            if (inside > signsBehind(head)) {
                return c == ';';
            }
            if (head == 't' && inside == 1) {
                return isKind(kindToldBy(c));
            }
            return c >= '0' && c <= '9';
        }

        /** The place of the first statement that is not as it must be; those ahead of it come into the well. */
        int wrongStatement(Well into) {
            for (int at = 0; at < size; at++) {
                if (beginsAt(at) && !comes(at, into)) {
                    return at;
                }
            }
            return NO_PLACE;
        }

        int statements() {
            int many = 0;
            for (int at = 0; at < size; at++) {
                if (beginsAt(at)) {
                    many++;
                }
            }
            return many;
        }

        private boolean beginsAt(int at) {
            return at == 0 || sign(at - 1) == ';';
        }

        private boolean comes(int at, Well into) {
            switch (sign(at)) {
                case 'p': return into.addPerson(digit(at + 1), 10 * twoDigits(at + 2) + digit(at + 4));
                case 't': return into.addThing(kindToldBy(sign(at + 1)), digit(at + 2), digit(at + 3));
                case 'a': return into.fall(digit(at + 1));
                case 'k': return into.learnOrForget(digit(at + 1), digit(at + 2));
                case 'd': return into.passDays(twoDigits(at + 1));
                case 'o':
                    into.dryness = digit(at + 1);
                    return true;
                default: return false;
            }
        }

        private int sign(int at) {
            return at >= 0 && at < size ? text[at] : '0';
        }

        private int digit(int at) {
            return sign(at) - '0';
        }

        private int twoDigits(int at) {
            return 10 * digit(at) + digit(at + 1);
        }

        /** How many signs stand between a statement's letter and its ";"; 0 if no statement begins so. */
        private static int signsBehind(int head) {
            switch (head) {
                case 'p': return 4;
                case 't': return 3;
                case 'k':
                case 'd': return 2;
                case 'a':
                case 'o': return 1;
                default: return 0;
            }
        }

        private static int kindToldBy(int c) {
            switch (c) {
                case 's': return STONE;
                case 'r': return RING;
                case 'c': return CAT;
                case 'h': return HAT;
                case 'p': return PENNY;
                case 'b': return BISHOP;
                default: return NONE;
            }
        }
    }

    /** What will be if nothing is done. */
    private static final class Outlook {
        private final Well then = new Well();
        private final int[] quiets = new int[MOST_THINGS];

        Well after(Well now, int n) {
            then.becomes(now);
            for (int d = 0; d < n; d++) {
                then.passDay(true);
            }
            return then;
        }

        int quietAfter(Well now, int thing) {
            then.becomes(now);
            for (int d = 0; d <= FARTHEST; d++) {
                if (then.left[thing] == 0) {
                    return d;
                }
                then.passDay(true);
            }
            return NONE;
        }

        int waterAfter(Well now, boolean wet) {
            then.becomes(now);
            for (int d = 0; d <= FARTHEST; d++) {
                if (then.hasWater() == wet) {
                    return d;
                }
                then.passDay(true);
            }
            return NONE;
        }

        int allQuietAfter(Well now) {
            then.becomes(now);
            for (int d = 0; d <= FARTHEST; d++) {
                if (then.leftOfAll() == 0) {
                    return d;
                }
                then.passDay(true);
            }
            return NONE;
        }

        int inTheWay(Well now) {
            findQuiets(now);
            int best = NONE;
            int latest = -1;
            for (int i = 0; i < now.things; i++) {
                if (now.asks(i) && quiets[i] > latest) {
                    latest = quiets[i];
                    best = i;
                }
            }
            return best;
        }

        private void findQuiets(Well now) {
            // One day past the farthest stands for "never", so that it is the last of all.
            for (int i = 0; i < MOST_THINGS; i++) {
                quiets[i] = FARTHEST + 1;
            }
            then.becomes(now);
            for (int d = 0; d <= FARTHEST; d++) {
                for (int i = 0; i < then.things; i++) {
                    if (then.left[i] == 0 && quiets[i] > d) {
                        quiets[i] = d;
                    }
                }
                then.passDay(true);
            }
        }

        int waterDays(Well now, int n) {
            then.becomes(now);
            return then.waterInPassing(n);
        }

        int longestWater(Well now, int n) {
            then.becomes(now);
            int longest = 0;
            int inOne = 0;
            for (int d = 0; d < n; d++) {
                then.passDay(true);
                inOne = then.hasWater() ? inOne + 1 : 0;
                longest = Math.max(longest, inOne);
            }
            return longest;
        }
    }

    /** What would be if one thing were done, and which thing does most. */
    private static final class Advice {
        private final Well then = new Well();
        private final int[] gainOfFirst = new int[4];
        private final int[] gainOfOther = new int[4];

        private int waterAsItIs(Well now, int n) {
            then.becomes(now);
            return then.waterInPassing(n);
        }

        int bestLesson(Well now, int n) {
            int best = NONE;
            int most = waterAsItIs(now, n);
            for (int p = 0; p < now.people; p++) {
                // No other lesson can change a day: nothing of his that still asks has another topic unknown to him.
                int lessons = now.lessonBitsOf(p);
                for (int topic = 0; topic < MOST_TOPICS; topic++) {
                    int water = (lessons >> topic & 1) == 1 ? waterTaught(now, p, topic, n) : NONE;
                    if (water > most) {
                        most = water;
                        best = 10 * p + topic;
                    }
                }
            }
            return best;
        }

        private int waterTaught(Well now, int p, int topic, int n) {
            then.becomes(now);
            then.knows[p] |= 1 << topic;
            return then.waterInPassing(n);
        }

        int bestToEmbolden(Well now, int n) {
            int best = NONE;
            int most = waterAsItIs(now, n);
            for (int p = 0; p < now.people; p++) {
                then.becomes(now);
                then.shyness[p] = 0;
                int water = then.waterInPassing(n);
                if (water > most) {
                    most = water;
                    best = p;
                }
            }
            return best;
        }

        int bestWithout(Well now, int n) {
            int best = NONE;
            int most = waterAsItIs(now, n);
            for (int i = 0; i < now.things; i++) {
                then.becomes(now);
                then.left[i] = 0;
                int water = then.waterInPassing(n);
                if (water > most) {
                    most = water;
                    best = i;
                }
            }
            return best;
        }

        int bestDropper(Well now, int kind, int weight, int n) {
            int best = NONE;
            int fewestDays = n + 1;
            for (int p = 0; now.things < MOST_THINGS && p < now.people; p++) {
                int water = waterWithOneMore(now, kind, weight, p, n);
                if (water < fewestDays) {
                    fewestDays = water;
                    best = p;
                }
            }
            return best;
        }

        int waterWithOneMore(Well now, int kind, int weight, int p, int n) {
            then.becomes(now);
            then.addThing(kind, weight, p);
            return then.waterInPassing(n);
        }

        int worstAnew(Well now, int n) {
            int best = NONE;
            int fewestDays = waterAsItIs(now, n);
            for (int i = 0; i < now.things; i++) {
                then.becomes(now);
                then.fall(i);
                int water = then.waterInPassing(n);
                if (water < fewestDays) {
                    fewestDays = water;
                    best = i;
                }
            }
            return best;
        }

        /** A pair is told in two bits: 2 the first falls silent, 1 the other does. */
        int steadyPair(Well now, int a, int b, int n) {
            for (int pair = 0; pair < 4; pair++) {
                findGains(now, a, b, n, pair);
            }
            for (int pair = 0; pair < 4; pair++) {
                if (gainOfFirst[pair ^ 2] <= gainOfFirst[pair] && gainOfOther[pair ^ 1] <= gainOfOther[pair]) {
                    return 10 * (pair >> 1) + (pair & 1);
                }
            }
            return NONE;
        }

        private void findGains(Well now, int a, int b, int n, int pair) {
            boolean firstSilent = (pair & 2) != 0;
            boolean otherSilent = (pair & 1) != 0;
            then.becomes(now);
            if (firstSilent) {
                then.knows[a] = 0;
            }
            if (otherSilent) {
                then.knows[b] = 0;
            }
            int water = then.waterInPassing(n);
            gainOfFirst[pair] = water - burdenOf(a, firstSilent);
            gainOfOther[pair] = water - burdenOf(b, otherSilent);
        }

        private int burdenOf(int p, boolean silent) {
            return !silent && then.queueOf(p) > 0 ? 3 : 0;
        }
    }

    /** What hangs on odds and draws. */
    private static final class Chances {
        private final Well then = new Well();
        private final Well[] steps = new Well[MOST_COLD_DAYS + 1];
        private int seed = 0;
        int lotWater = 0;
        int lotAnswered = 0;

        Chances() {
            for (int i = 0; i < steps.length; i++) {
                steps[i] = new Well();
            }
        }

        /** Of the t to the n equally likely ways in which n days may go, how many end with water. */
        long waysToWater(Well now, int n, int t) {
            steps[0].becomes(now);
            return waysFrom(steps, 0, n, t);
        }

        // Ways that begin alike share their first days: that is why each day has a well of its own.
        private static long waysFrom(Well[] steps, int day, int n, int t) {
            if (day >= n || day >= MOST_COLD_DAYS) {
                return steps[day].hasWater() ? 1 : 0;
            }
            Well next = steps[day + 1];
            next.becomes(steps[day]);
            next.passDay(false);
            long ways = waysFrom(steps, day + 1, n, t);
            next.becomes(steps[day]);
            next.passDay(true);
            return ways + (t - 1) * waysFrom(steps, day + 1, n, t);
        }

        void drawLots(Well now, int n, int z) {
            seed = z;
            lotWater = 0;
            lotAnswered = 0;
            for (int w = 0; w < n; w++) {
                then.becomes(now);
                for (int i = 0; i < then.things; i++) {
                    then.dropper[i] = draw(then.people);
                    then.fall(i);
                }
                int before = then.answeredByAll();
                lotWater += then.waterInPassing(DAYS_OF_A_LOT);
                lotAnswered += then.answeredByAll() - before;
            }
        }

        private int draw(int m) {
            seed = seed * 1664525 + 1013904223;
            return m > 0 ? (seed & WITHOUT_SIGN) / 256 % m : 0;
        }
    }

    /** Told days, looked at against what will be. */
    private static final class Row {
        private final Well then = new Well();
        private final int[] number = new int[MOST_IN_ROW];
        int size = 0;

        boolean take(int v) {
            if (size >= MOST_IN_ROW) {
                return false;
            }
            number[size] = v;
            size++;
            return true;
        }

        int kindsThatFit(Well now, int thing) {
            int bits = 0;
            for (int kind = 0; kind < KINDS; kind++) {
                if (fits(now, thing, kind, now.weight[thing])) {
                    bits |= 1 << kind;
                }
            }
            return bits;
        }

        int weightsThatFit(Well now, int thing) {
            int bits = 0;
            for (int weight = 0; weight <= MOST_DIGIT; weight++) {
                if (fits(now, thing, now.kind[thing], weight)) {
                    bits |= 1 << weight;
                }
            }
            return bits;
        }

        private boolean fits(Well now, int thing, int kind, int weight) {
            then.becomes(now);
            then.kind[thing] = kind;
            then.weight[thing] = weight;
            then.fall(thing);
            for (int d = 0; d < size; d++) {
                if (then.left[thing] != number[d]) {
                    return false;
                }
                then.passDay(true);
            }
            return true;
        }

        int firstWrong(Well now) {
            then.becomes(now);
            for (int d = 0; d < size; d++) {
                if (Integer.bitCount(then.askBits()) != number[d]) {
                    return d;
                }
                then.passDay(true);
            }
            return NONE;
        }
    }
}
