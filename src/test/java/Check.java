/** What every test of the project uses: it prints each answer that is not the one that is due. */
final class Check {
    private int asked = 0;
    private int wrong = 0;

    void due(String call, long got, long want) {
        asked++;
        if (got != want) {
            wrong++;
            System.out.println(call + " answered " + got + ", due is " + want);
        }
    }

    void end() {
        System.out.println(wrong == 0 ? asked + " answers, all as due" : wrong + " of " + asked + " answers are not as due");
        if (wrong != 0) {
            System.exit(1);
        }
    }

    static int tell(ComesUpAsAQuestion x, String text) {
        for (int i = 0; i < text.length(); i++) {
            x.letter(text.charAt(i));
        }
        return x.well();
    }

    static ComesUpAsAQuestion told(String text) {
        ComesUpAsAQuestion x = new ComesUpAsAQuestion();
        if (tell(x, text) <= 0) {
            throw new IllegalStateException("a test tells a well with a fault: " + text);
        }
        return x;
    }

    static void rowOf(ComesUpAsAQuestion x, int... numbers) {
        for (int v : numbers) {
            x.row(v);
        }
    }

    /** All that can be seen of the state but the refusals, as a text. */
    static String seen(ComesUpAsAQuestion x) {
        StringBuilder s = new StringBuilder();
        for (int what = 0; what <= 7; what++) {
            s.append(x.count(what)).append(' ');
        }
        int people = x.count(0);
        int things = x.count(1);
        for (int p = 0; p < people; p++) {
            for (int what = 0; what <= 3; what++) {
                s.append(x.person(p, what)).append(' ');
            }
        }
        for (int t = 0; t < things; t++) {
            for (int what = 0; what <= 6; what++) {
                s.append(x.thing(t, what)).append(' ');
            }
        }
        return s.toString();
    }
}
