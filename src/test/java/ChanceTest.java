/** Promises 32 to 38: odds, fractions, the row, lots. */
public final class ChanceTest {
    private static final Check c = new Check();
    private static final long LONG_REFUSAL = 4000000000000000000L;

    private static void fraction(ComesUpAsAQuestion x, int n, int t, long above, long below) {
        c.due("cold(" + n + ", " + t + ", 0)", x.cold(n, t, 0), above);
        c.due("cold(" + n + ", " + t + ", 1)", x.cold(n, t, 1), below);
    }

    private static void cold() {
        ComesUpAsAQuestion x = Check.told("p0001;ts00;");
        String before = Check.seen(x);
        fraction(x, 0, 2, 1, 1);
        fraction(x, 1, 3, 2, 3);
        fraction(x, 2, 3, 8, 9);
        fraction(x, 7, 20, 1279999999L, 1280000000L);
        c.due("in mind alone", Check.seen(x).equals(before) ? 1 : 0, 1);
        ComesUpAsAQuestion shy = Check.told("p1001;ts00;");
        fraction(shy, 1, 2, 0, 1);
        fraction(shy, 2, 2, 1, 2);
        fraction(shy, 3, 2, 1, 2);
        fraction(shy, 4, 4, 15, 16);
        ComesUpAsAQuestion late = Check.told("p0255;ts90;");
        fraction(late, 3, 7, 1, 1);
        fraction(late, 4, 7, 6, 7);
        // A CAT needs 2 warm DAYS of n.
        ComesUpAsAQuestion cat = Check.told("p0255;tc00;");
        fraction(cat, 1, 5, 0, 1);
        fraction(cat, 2, 4, 9, 16);
        fraction(cat, 3, 3, 20, 27);
        fraction(Check.told("p0000;ts00;d01;"), 0, 2, 0, 1);
        c.due("cold(-1, 21, 9)", x.cold(-1, 21, 9), LONG_REFUSAL + 4);
        c.due("cold(8, 1, 9)", x.cold(8, 1, 9), LONG_REFUSAL + 4);
        c.due("cold(8, 2, 9)", x.cold(8, 2, 9), LONG_REFUSAL + 6);
        c.due("cold(0, 21, 9)", x.cold(0, 21, 9), LONG_REFUSAL + 6);
        c.due("cold(0, 2, 2)", x.cold(0, 2, 2), LONG_REFUSAL + 2);
        c.due("cold(0, 2, -1)", x.cold(0, 2, -1), LONG_REFUSAL + 2);
        c.due("count(12)", x.count(12), 2);
        c.due("count(14)", x.count(14), 2);
        c.due("count(16)", x.count(16), 2);
    }

    private static void mean() {
        ComesUpAsAQuestion x = Check.told("p0001;ts00;tp90;");
        c.due("mean(0)", x.mean(0), 2);
        c.due("mean(1)", x.mean(1), 1);
        x.days(1);
        c.due("mean(0)", x.mean(0), 3);
        c.due("mean(1)", x.mean(1), 2);
        c.due("mean(2)", x.mean(2), LONG_REFUSAL + 2);
        c.due("mean(-1)", x.mean(-1), LONG_REFUSAL + 2);
        c.due("mean(0) of none", Check.told("p0001;").mean(0), 0);
        c.due("mean(1) of none", Check.told("p0001;").mean(1), 1);
        c.due("mean(0) of 0", Check.told("p0001;ts00;ts80;d03;").mean(0), 0);
        c.due("mean(1) of 0", Check.told("p0001;ts00;ts80;d03;").mean(1), 1);
    }

    private static void was(String well, int thing, int kinds, int weights, int... row) {
        ComesUpAsAQuestion x = Check.told(well);
        Check.rowOf(x, row);
        c.due(well + " whatWas(" + thing + ", 0)", x.whatWas(thing, 0), kinds);
        c.due(well + " whatWas(" + thing + ", 1)", x.whatWas(thing, 1), weights);
        c.due("the ROW stays", x.count(6), row.length);
    }

    private static void whatWas() {
        was("p0001;ts00;", 0, 63, 1023);
        was("p0001;ts00;", 0, 1 + 2 + 16, 1023, 1);
        was("p0001;ts00;", 0, 1, 1, 1, 0);
        was("p0001;ts00;", 0, 2, 0, 1, 1, 0);
        was("p0001;ts00;", 0, 0, 256, 1, 1, 1, 0);
        was("p0001;ts00;", 0, 16, 0, 1, 1, 1, 1, 0);
        was("p0001;tp50;", 0, 4 + 8 + 16, 240, 2);
        was("p0001;tp90;", 0, 16, 768, 3);
        was("p0001;tp90;", 0, 32, 0, 4);
        was("p0129;o1;ts00;", 0, 8, 0, 2, 2, 1, 0);
        // He answers the least of his first; so the second of the two STONES waits a DAY.
        was("p0001;ts00;ts00;", 1, 1 + 2, 1, 1, 1, 0);
        ComesUpAsAQuestion x = Check.told("p0001;ts00;");
        c.due("whatWas(1, 9)", x.whatWas(1, 9), -1);
        c.due("whatWas(-1, 0)", x.whatWas(-1, 0), -1);
        c.due("whatWas(0, 2)", x.whatWas(0, 2), -2);
        c.due("whatWas(0, -1)", x.whatWas(0, -1), -2);
        x.days(5);
        Check.rowOf(x, 1, 0);
        c.due("dropped anew now, on DAY 5", x.whatWas(0, 0), 1);
        c.due("LEFT stays", x.thing(0, 4), 0);
    }

    private static void rows() {
        ComesUpAsAQuestion x = Check.told("p0001;p0000;ts00;ts31;");
        c.due("row(-1)", x.row(-1), -4);
        c.due("row(100)", x.row(100), -6);
        c.due("row(99)", x.row(99), 1);
        c.due("judge()", x.judge(), 0);
        c.due("the ROW has none then", x.count(6), 0);
        Check.rowOf(x, 0, 0, 1, 1);
        c.due("judge() all is so", x.judge(), -9);
        c.due("the ROW has none then", x.count(6), 0);
        Check.rowOf(x, 0, 0, 0);
        c.due("judge() the third is not so", x.judge(), 2);
        c.due("judge() of none", x.judge(), -9);
        for (int i = 1; i <= 16; i++) {
            c.due("row " + i, x.row(i == 1 || i == 2 ? 0 : i == 16 ? 2 : 1), i);
        }
        c.due("row 17", x.row(0), -6);
        c.due("row 17, below", x.row(-1), -4);
        c.due("count(6)", x.count(6), 16);
        c.due("judge() the last is not so", x.judge(), 15);
        Check.rowOf(x, 3, 4);
        c.due("clear()", x.clear(), 2);
        c.due("clear()", x.clear(), 0);
        c.due("count(6)", x.count(6), 0);
        c.due("DAY", x.count(2), 0);
    }

    private static void lots() {
        ComesUpAsAQuestion one = Check.told("p0001;ts00;");
        c.due("lots(1, 0, 0) of one", one.lots(1, 0, 0), 15);
        c.due("lots(20, -5, 0) of one", one.lots(20, -5, 0), 300);
        c.due("lots(20, -5, 1) of one", one.lots(20, -5, 1), 20);
        c.due("lots without THINGS", Check.told("p0001;p0001;").lots(3, 9, 0), 45);
        c.due("lots without THINGS", Check.told("p0001;p0001;").lots(3, 9, 1), 0);
        // The DRAWS below 2 from 7 on are 1, 1, 0, 0, 1; who has 0 answers it at once, who has 1 never.
        ComesUpAsAQuestion x = Check.told("p0001;p0000;ts00;d09;");
        String before = Check.seen(x);
        c.due("lots(1, 7, 0)", x.lots(1, 7, 0), 0);
        c.due("lots(2, 7, 0)", x.lots(2, 7, 0), 0);
        c.due("lots(3, 7, 0)", x.lots(3, 7, 0), 15);
        c.due("lots(4, 7, 0)", x.lots(4, 7, 0), 30);
        c.due("lots(5, 7, 0)", x.lots(5, 7, 0), 30);
        c.due("lots(5, 7, 1)", x.lots(5, 7, 1), 2);
        c.due("in mind alone", Check.seen(x).equals(before) ? 1 : 0, 1);
        ComesUpAsAQuestion none = new ComesUpAsAQuestion();
        c.due("lots(0, 0, 9)", none.lots(0, 0, 9), -4);
        c.due("lots(21, 0, 9)", none.lots(21, 0, 9), -6);
        c.due("lots(20, 0, 2)", none.lots(20, 0, 2), -2);
        c.due("lots(1, 0, -1)", none.lots(1, 0, -1), -2);
        c.due("lots(1, 0, 1)", none.lots(1, 0, 1), -3);
    }

    public static void main(String[] args) {
        cold();
        mean();
        whatWas();
        rows();
        lots();
        c.end();
    }
}
