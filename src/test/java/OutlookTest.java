/** Promises 13 to 19: what will be, in mind. */
public final class OutlookTest {
    private static final Check c = new Check();

    private static void thenAndFirst() {
        // The CAT asks on DAY 1 and is quiet on DAY 2; the STONE is answered on the DAY on which it RISES, 4.
        ComesUpAsAQuestion x = Check.told("p0255;tc00;ts90;");
        String before = Check.seen(x);
        c.due("thingThen(0, 0, 0)", x.thingThen(0, 0, 0), 1);
        c.due("thingThen(0, 0, 1)", x.thingThen(0, 0, 1), 2);
        c.due("thingThen(0, 1, 1)", x.thingThen(0, 1, 1), 1);
        c.due("thingThen(0, 2, 1)", x.thingThen(0, 2, 1), 0);
        c.due("thingThen(1, 3, 0)", x.thingThen(1, 3, 0), 1);
        c.due("thingThen(1, 99, 0)", x.thingThen(1, 99, 0), 0);
        c.due("askThen(0, 0)", x.askThen(0, 0), 0);
        c.due("askThen(1, 0)", x.askThen(1, 0), 1);
        c.due("askThen(1, 1)", x.askThen(1, 1), 0);
        c.due("askThen(2, 1)", x.askThen(2, 1), 1);
        c.due("askThen(99, 1)", x.askThen(99, 1), 1);
        c.due("quiet(0)", x.quiet(0), 2);
        c.due("quiet(1)", x.quiet(1), 4);
        c.due("first(0)", x.first(0), 1);
        c.due("first(1)", x.first(1), 0);
        c.due("first(2)", x.first(2), 4);
        c.due("first(3)", x.first(3), -9);
        c.due("in mind alone", Check.seen(x).equals(before) ? 1 : 0, 1);
    }

    private static void farthest() {
        // He answers on DAYS 10, 20 .. 100, ten times in all.
        ComesUpAsAQuestion x = Check.told("p9255;tb00;tb00;tc00;");
        c.due("quiet(2) behind 100", x.quiet(2), -9);
        c.due("first(2) behind 100", x.first(2), -9);
        x.days(1);
        c.due("quiet(2) behind 99", x.quiet(2), 99);
        c.due("quiet(1)", x.quiet(1), 79);
        c.due("first(2) behind 99", x.first(2), 99);
        c.due("first(1) behind 99", x.first(1), 99);
        c.due("first(0)", x.first(0), 0);
        c.due("first(3)", x.first(3), 2);
        x.shy(0, 0);
        c.due("quiet(0)", x.quiet(0), 4);
    }

    private static void pastTheLastDay() {
        ComesUpAsAQuestion x = Check.told("p9255;ts00;d60;d60;d60;d60;d60;d60;d60;d60;d60;d60;d60;d60;d60;d60;d60;d60;d39;");
        c.due("DAY", x.count(2), 999);
        x.drops(0);
        c.due("quiet(0) on DAY 1000", x.quiet(0), 1);
        c.due("first(0)", x.first(0), -9);
        x.shy(0, 8);
        c.due("quiet(0) on DAY 1008", x.quiet(0), 9);
    }

    private static void inTheWay() {
        c.due("BLOCKS, for ever before 99", Check.told("p9255;p0000;tb00;tb00;tc00;ts01;d01;").first(3), 3);
        c.due("BLOCKS, for ever before long, the least", Check.told("p0255;p0000;ts00;ts00;tb01;ts01;d01;").first(3), 2);
        c.due("BLOCKS, the last", Check.told("p0255;ts00;ts00;ts00;d01;").first(3), 2);
        c.due("BLOCKS, of two the least", Check.told("p0255;p0255;tc00;tc01;d01;").first(3), 0);
        c.due("BLOCKS, of what ASKS alone", Check.told("p0255;tc00;ts90;d01;").first(3), 0);
        c.due("BLOCKS, nothing", Check.told("p0255;ts00;d01;").first(3), -9);
        c.due("first(4)", Check.told("p0255;").first(4), -2);
        c.due("first(-1)", Check.told("p0255;").first(-1), -2);
        c.due("DRY with shyness", Check.told("p2001;ts00;d01;").first(0), 0);
        c.due("WET with shyness", Check.told("p2001;ts00;d01;").first(1), 2);
    }

    private static void runs() {
        // WATER on DAYS 1 and 2, none on 3, then always.
        ComesUpAsAQuestion x = Check.told("p0255;ts00;tc60;");
        c.due("runs(1, 0)", x.runs(1, 0), 1);
        c.due("runs(2, 1)", x.runs(2, 1), 2);
        c.due("runs(3, 0)", x.runs(3, 0), 2);
        c.due("runs(5, 0)", x.runs(5, 0), 4);
        c.due("runs(5, 1)", x.runs(5, 1), 2);
        c.due("runs(6, 1)", x.runs(6, 1), 3);
        c.due("runs(99, 0)", x.runs(99, 0), 98);
        c.due("runs(99, 1)", x.runs(99, 1), 96);
        c.due("runs(0, 9)", x.runs(0, 9), -4);
        c.due("runs(100, 9)", x.runs(100, 9), -6);
        c.due("runs(1, 2)", x.runs(1, 2), -2);
        c.due("runs(1, -1)", x.runs(1, -1), -2);
        c.due("the DAY that goes on does not count", Check.told("p0000;ts00;").runs(1, 0), 0);
    }

    private static void neverAndBusiest() {
        ComesUpAsAQuestion x = Check.told("p0002;p0001;p0001;ts00;ts10;ts01;tb02;");
        c.due("never()", x.never(), 1);
        x.learns(1, 0);
        c.due("never() forgotten", x.never(), 5);
        x.learns(1, 0);
        c.due("busiest()", x.busiest(), 2);
        x.days(3);
        c.due("busiest(), of several the least", x.busiest(), 0);
        ComesUpAsAQuestion y = Check.told("p0001;ts00;d01;");
        y.learns(0, 0);
        c.due("never() of a quiet one", y.never(), 0);
        c.due("busiest() with nothing to answer", y.busiest(), 0);
        c.due("busiest() nobody", new ComesUpAsAQuestion().busiest(), -9);
    }

    private static void refusals() {
        ComesUpAsAQuestion x = Check.told("p0000;ts00;");
        c.due("thingThen(1, -1, 9)", x.thingThen(1, -1, 9), -1);
        c.due("thingThen(-1, 100, 9)", x.thingThen(-1, 100, 9), -1);
        c.due("thingThen(0, -1, 9)", x.thingThen(0, -1, 9), -4);
        c.due("thingThen(0, 100, 9)", x.thingThen(0, 100, 9), -6);
        c.due("thingThen(0, 99, 2)", x.thingThen(0, 99, 2), -2);
        c.due("thingThen(0, 0, -1)", x.thingThen(0, 0, -1), -2);
        c.due("askThen(-1, 9)", x.askThen(-1, 9), -4);
        c.due("askThen(100, 9)", x.askThen(100, 9), -6);
        c.due("askThen(0, 2)", x.askThen(0, 2), -2);
        c.due("askThen(99, -1)", x.askThen(99, -1), -2);
        c.due("quiet(1)", x.quiet(1), -1);
        c.due("quiet(-1)", x.quiet(-1), -1);
        c.due("quiet(0)", x.quiet(0), -9);
    }

    public static void main(String[] args) {
        thenAndFirst();
        farthest();
        pastTheLastDay();
        inTheWay();
        runs();
        neverAndBusiest();
        refusals();
        c.end();
    }
}
