/** Promises 13 to 19 at their edges. */
public final class OutlookEdgesTest {
    private static final Check c = new Check();
    private static final String TO_DAY_999 = " 16*days(60) days(39) count(2)=999 ";

    private static void run(String text) {
        Script.run(c, text);
    }

    private static void thingThen() {
        run("'p9255;tb00;tp90;' well()=3 thingThen(-1,-1,2)=-1 thingThen(2,0,0)=-1 thingThen(2,100,2)=-1 thingThen(MIN,0,0)=-1"
            + " thingThen(MAX,0,0)=-1 thingThen(0,-1,2)=-4 thingThen(0,100,2)=-6 thingThen(0,-1,0)=-4 thingThen(0,100,0)=-6"
            + " thingThen(0,MIN,0)=-4 thingThen(0,MAX,0)=-6 thingThen(0,0,-1)=-2 thingThen(0,99,2)=-2 thingThen(0,0,MIN)=-2"
            + " thingThen(0,0,MAX)=-2 thingThen(0,0,0)=1 thingThen(0,1,0)=0 thingThen(0,2,0)=0 thingThen(0,99,0)=0");
        // The PENNY RISES on DAY 10; he answers on DAYS 10, 20, ..: the BISHOP first, till DAY 40, then the PENNY, till DAY 70.
        run("'p9255;tb00;tp90;' well()=3 thingThen(1,0,0)=10 thingThen(1,9,0)=1 thingThen(1,10,0)=0 thingThen(1,11,0)=0"
            + " thingThen(0,0,1)=4 thingThen(0,9,1)=4 thingThen(0,10,1)=3 thingThen(0,39,1)=1 thingThen(0,40,1)=0 thingThen(0,41,1)=0"
            + " thingThen(0,99,1)=0 thingThen(1,49,1)=3 thingThen(1,50,1)=2 thingThen(1,69,1)=1 thingThen(1,70,1)=0"
            + " thingThen(1,99,1)=0 count(2)=0 thing(0,3)=1 thing(0,4)=4 thing(1,3)=10 person(0,2)=0");
        run("'p0000;' 9*'ts90;' well()=10 thingThen(8,3,0)=1 thingThen(8,4,0)=0 thingThen(8,99,1)=1 thingThen(9,0,0)=-1");
        run("thingThen(0,0,0)=-1 'p0000;' well()=1 thingThen(0,0,0)=-1");
        // In thought DAY passes 999: 1000 is one of his DAYS, with SHY 8 it is 1008.
        run("'p9001;' well()=1" + TO_DAY_999 + "'ts00;' well()=1 thingThen(0,0,1)=1 thingThen(0,1,0)=0 thingThen(0,1,1)=0 shy(0,8)=9"
            + " thingThen(0,8,1)=1 thingThen(0,9,1)=0 thingThen(0,99,1)=0 count(2)=999 days(1)=-6");
    }

    private static void askThen() {
        run("askThen(0,0)=0 askThen(99,0)=0 askThen(0,1)=1 askThen(99,1)=1 askThen(-1,0)=-4 askThen(100,0)=-6 askThen(0,2)=-2");
        run("'p0000;ts00;tp90;' well()=3 askThen(-1,0)=-4 askThen(100,0)=-6 askThen(-1,2)=-4 askThen(100,2)=-6 askThen(0,2)=-2"
            + " askThen(99,2)=-2 askThen(0,-1)=-2 askThen(MIN,0)=-4 askThen(MAX,0)=-6 askThen(0,MIN)=-2 askThen(0,MAX)=-2"
            + " askThen(0,0)=0 askThen(0,1)=1 askThen(1,0)=1 askThen(1,1)=0 askThen(9,0)=1 askThen(10,0)=3 askThen(99,0)=3 askThen(99,1)=0"
            + " count(3)=0");
        run("'p0000;' 9*'ts00;' well()=10 askThen(0,0)=0 askThen(0,1)=1 askThen(1,0)=511 askThen(99,0)=511 days(1)=0 askThen(0,0)=511"
            + " askThen(0,1)=0");
        // It is answered on the DAY on which it RISES; of nine the last is behind nine.
        run("'p0001;ts00;' well()=2 askThen(0,0)=0 askThen(1,0)=0 askThen(1,1)=1");
        run("'p0001;' 9*'ts00;' well()=10 askThen(1,0)=510 askThen(8,0)=256 askThen(8,1)=0 askThen(9,0)=0 askThen(9,1)=1");
        run("'p0001;' well()=1" + TO_DAY_999 + "'ts00;ts00;' well()=2 askThen(1,0)=2 askThen(2,0)=0 askThen(99,1)=1 count(2)=999");
    }

    private static void quiet() {
        run("quiet(0)=-1 'p0000;' well()=1 quiet(0)=-1 9*'ts00;' well()=9 quiet(8)=-9 quiet(9)=-1 quiet(-1)=-1 quiet(MIN)=-1 quiet(MAX)=-1");
        // Ten answers, the last on DAY 100: behind 100 DAYS it is not told, behind 99 and 98 it is.
        run("'p9255;tb00;tb00;tc00;' well()=4 quiet(0)=40 quiet(1)=80 quiet(2)=-9 days(1)=0 quiet(2)=99 days(1)=0 quiet(2)=98 quiet(0)=38");
        run("'p0001;ts00;' well()=2 quiet(0)=1 days(1)=1 quiet(0)=0 learns(0,0)=0 quiet(0)=0 drops(0)=1 quiet(0)=-9");
        run("'p8001;' well()=1" + TO_DAY_999 + "'ts00;' well()=1 quiet(0)=9 shy(0,9)=8 quiet(0)=1");
    }

    private static void first() {
        run("first(-1)=-2 first(4)=-2 first(MIN)=-2 first(MAX)=-2 first(0)=-9 first(1)=0 first(2)=0 first(3)=-9 'p0000;' well()=1"
            + " first(0)=-9 first(1)=0 first(2)=0 first(3)=-9");
        // DRY: the longest till one RISES is 13 DAYS.
        run("'p0000;o9;th90;' well()=3 first(0)=13 first(1)=0 first(2)=-9 first(3)=-9 days(12)=1 first(0)=1 first(3)=-9 days(1)=0 first(0)=0"
            + " first(1)=-9 first(2)=-9 first(3)=0");
        run("'p0001;ts00;' well()=2 first(0)=-9 first(1)=0 first(2)=1 days(1)=1 first(0)=-9 first(1)=0 first(2)=0 first(3)=-9");
        // Eleven answers, the last on DAY 110: WET and ALL behind 100 DAYS are not told, behind 99 and 98 they are.
        run("'p9255;tb00;tb00;tc00;ts00;' well()=5 first(1)=0 days(1)=0 first(1)=-9 days(9)=0 first(1)=-9 first(2)=-9 days(1)=0"
            + " first(1)=99 first(2)=99 days(1)=0 first(1)=98 first(2)=98");
        run("'p0255;ts90;' well()=2 first(0)=-9 first(1)=0 first(2)=4 first(3)=-9");
        run("'p0255;' 9*'tb00;' well()=10 first(0)=1 first(2)=36 first(3)=-9 days(1)=0 first(1)=35 first(2)=35 first(3)=8");
        run("'p8001;' well()=1" + TO_DAY_999 + "'ts00;' well()=1 first(0)=1 first(1)=0 first(2)=9");
    }

    private static void blocks() {
        run("'p0255;p0000;tc00;tc00;ts01;ts01;' well()=6 first(3)=-9 days(1)=0 first(3)=2 learns(1,0)=1 first(3)=1 days(3)=1 first(3)=-9");
        run("'p1255;p1255;ts00;ts01;d01;' well()=5 quiet(0)=1 quiet(1)=1 first(3)=0");
        // QUIET 99 is ahead of -9; -9 because it is behind 108 and -9 because it is never are the same: the least.
        run("'p9255;p0000;tb00;tb00;tc00;d01;' well()=6 quiet(2)=99 first(3)=2 'ts00;ts01;d01;' well()=3 quiet(3)=-9 quiet(4)=-9 quiet(2)=98"
            + " first(3)=3");
        // Thing 3 is answered on DAY 110, thing 4 never: behind 101 and 100 DAYS they are the same, behind 99 they are not.
        run("'p9255;p0000;tb00;tb00;tc00;ts00;ts01;' well()=7 days(9)=0 quiet(3)=-9 first(3)=3 days(1)=0 quiet(3)=-9 first(3)=3 days(1)=0"
            + " quiet(3)=99 first(3)=4");
        // What has not RISEN is quiet later, but it does not ASK.
        run("'p0255;p0000;tc00;ts91;d01;' well()=5 first(3)=0 days(1)=1 first(3)=-9 days(2)=0 first(3)=1");
        run("'p0000;' 9*'ts00;' 'd01;' well()=11 first(3)=0");
    }

    private static void runs() {
        run("runs(0,0)=-4 runs(100,0)=-6 runs(1,2)=-2 runs(1,0)=1 runs(1,1)=1 runs(99,0)=99 runs(99,1)=99");
        run("'p0000;ts90;' well()=2 runs(0,0)=-4 runs(-1,0)=-4 runs(100,0)=-6 runs(0,2)=-4 runs(100,2)=-6 runs(1,-1)=-2 runs(99,2)=-2"
            + " runs(MIN,0)=-4 runs(MAX,0)=-6 runs(1,MIN)=-2 runs(99,MAX)=-2 runs(1,0)=1 runs(1,1)=1 runs(3,0)=3 runs(4,0)=3 runs(99,0)=3"
            + " runs(3,1)=3 runs(4,1)=3 runs(99,1)=3 count(2)=0");
        // As each is over: the DAY that is now does not count, the last of the n does.
        run("'p0000;ts00;' well()=2 runs(1,0)=0 runs(1,1)=0 runs(99,0)=0 runs(99,1)=0");
        run("'p0001;ts00;ts00;' well()=3 runs(1,0)=0 runs(1,1)=0 runs(2,0)=1 runs(2,1)=1 runs(99,0)=98 runs(99,1)=98");
        // No WATER on DAY 4 alone: three ahead, then as many behind, then more.
        run("'p0255;tc90;' well()=2 runs(3,1)=3 runs(4,1)=3 runs(7,0)=6 runs(7,1)=3 runs(8,0)=7 runs(8,1)=4 runs(99,0)=98 runs(99,1)=95");
        run("'p9001;' well()=1" + TO_DAY_999 + "'tc70;' well()=1 runs(2,0)=2 runs(3,0)=2 runs(20,0)=2 runs(21,0)=3 runs(99,0)=81 runs(99,1)=79");
    }

    private static void never() {
        run("never()=0 'p0000;' well()=1 never()=0 9*'ts00;' well()=9 never()=511 days(1)=0 never()=511 learns(0,0)=1 never()=0 learns(0,0)=0"
            + " never()=511");
        run("'p0001;ts00;d01;' well()=3 learns(0,0)=0 never()=0 drops(0)=1 never()=1");
        run("'p0127;ts70;ts60;' well()=3 never()=1 learns(0,7)=1 learns(0,6)=0 never()=2");
        run("'p0000;p0255;ts00;ts01;' well()=4 never()=1");
    }

    private static void busiest() {
        run("busiest()=-9 'p0000;' well()=1 busiest()=0 4*'p0000;' well()=4 busiest()=0 'ts04;' well()=1 busiest()=4 'ts03;' well()=1"
            + " busiest()=3 'tc04;' well()=1 busiest()=4 'tc00;ts00;' well()=2 busiest()=0");
        run("'p0000;p0128;ts00;tc01;' well()=4 busiest()=1 days(1)=0 person(1,3)=1 busiest()=0 days(1)=0 person(1,3)=0 busiest()=0");
    }

    public static void main(String[] args) {
        thingThen();
        askThen();
        quiet();
        first();
        blocks();
        runs();
        never();
        busiest();
        c.end();
    }
}
