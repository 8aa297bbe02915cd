/** Promises 20 to 31 at their edges. */
public final class AdviceEdgesTest {
    private static final Check c = new Check();
    private static final String TO_DAY_999 = " 16*days(60) days(39) count(2)=999 ";

    private static void run(String text) {
        Script.run(c, text);
    }

    /** Those that are asked for n DAYS alone, 1 .. 40: what is refused, and nothing there. */
    private static void daysOfAdvice(String call) {
        String refused = call + "(0)=-4 " + call + "(-1)=-4 " + call + "(41)=-6 " + call + "(MIN)=-4 " + call + "(MAX)=-6 ";
        run(refused + call + "(1)=-9 " + call + "(40)=-9");
        run("'p0000;' well()=1 " + refused + call + "(1)=-9 " + call + "(40)=-9");
        run("5*'p0255;' 9*'ts00;' well()=14 days(10)=1 count(4)=0 " + refused + call + "(1)=-9 " + call + "(40)=-9");
    }

    private static void teach() {
        daysOfAdvice("teach");
        // He answers on DAYS 10 .. 40: taught, there is WATER on DAY 40 and not on one ahead of it.
        run("'p0000;p9000;tb01;' well()=3 teach(39)=-9 teach(40)=10 teach(41)=-6 teach(40)=10 person(1,0)=0 thing(0,4)=4 count(2)=0");
        run("'p0000;ts00;' well()=2 teach(1)=0 teach(40)=0");
        // The last of PEOPLE, the last TOPIC, the last THING.
        run("5*'p0000;' 'ts74;d02;' well()=7 teach(1)=47 days(1)=0 teach(1)=47");
        run("'p0255;p0000;' 8*'ts70;' 'ts91;' well()=11 days(3)=0 teach(6)=-9 teach(7)=11 teach(40)=11");
        // Two lessons at once there are not; none that he has already; none for what is quiet.
        run("'p0000;ts00;ts10;' well()=3 teach(40)=-9 learns(0,1)=1 teach(1)=-9 teach(2)=0");
        run("'p0001;ts00;d01;' well()=3 learns(0,0)=0 teach(40)=-9");
        run("'p9000;' well()=1" + TO_DAY_999 + "'ts00;' well()=1 teach(1)=0 person(0,0)=0");
    }

    private static void bold() {
        daysOfAdvice("bold");
        // Seven BISHOPS RISE on DAY 13; answered each DAY they are quiet on DAY 40.
        run("'p0000;p9001;o9;' 7*'tb91;' well()=10 bold(39)=-9 bold(40)=1 bold(41)=-6 bold(40)=1 person(1,1)=9 person(1,2)=0");
        run("'p1001;ts00;' well()=2 bold(1)=0 bold(2)=0 shy(0,0)=1 bold(1)=-9 bold(40)=-9");
        run("4*'p0000;' 'p9001;ts04;' well()=6 bold(1)=4 bold(9)=4");
        run("'p9001;ts00;d09;' well()=3 bold(1)=-9 days(1)=1 bold(40)=-9");
        // Of several the least; one who helps more is ahead of him.
        run("'p1001;p1064;ts00;ts61;' well()=4 bold(2)=0 bold(5)=0 shy(1,2)=1 bold(5)=0");
        run("'p9000;ts00;' well()=2 bold(40)=-9");
        run("'p9001;' well()=1" + TO_DAY_999 + "'ts00;' well()=1 bold(1)=-9 shy(0,8)=9 bold(1)=0 person(0,1)=8");
    }

    private static void fewest() {
        run("fewest(-1)=-2 fewest(2)=-2 fewest(MIN)=-2 fewest(MAX)=-2 fewest(0)=0 fewest(1)=-9 'p0000;' well()=1 fewest(0)=0 fewest(1)=-9");
        run("'p0000;ts00;ts10;ts20;ts30;ts40;ts50;ts60;ts70;ts80;' well()=10 fewest(0)=8 fewest(1)=0 learns(0,0)=1 fewest(0)=7 learns(0,7)=1"
            + " fewest(0)=6 fewest(2)=-2 fewest(1)=0");
        run("4*'p0255;' 'p0000;ts04;' well()=6 fewest(0)=1 fewest(1)=4 learns(4,0)=1 fewest(0)=0 fewest(1)=-9");
        // Of several the least; one TOPIC twice is one lesson, of two PEOPLE it is two.
        run("'p0000;p0000;ts01;' well()=3 fewest(1)=1 'ts00;' well()=1 fewest(0)=2 fewest(1)=0 'ts81;' well()=1 fewest(0)=2 fewest(1)=0"
            + " 'ts11;' well()=1 fewest(0)=3 fewest(1)=1");
        run("'p0001;ts00;d01;' well()=3 learns(0,0)=0 fewest(0)=0 fewest(1)=-9 drops(0)=1 fewest(0)=1 fewest(1)=0");
    }

    private static void keepOut() {
        daysOfAdvice("keepOut");
        // Eight BISHOPS RISE on DAY 13; without one the others are quiet on DAY 40.
        run("'p0001;o9;' 8*'tb90;' well()=10 keepOut(39)=-9 keepOut(40)=0 keepOut(41)=-6 thing(0,4)=4 thing(0,3)=13");
        run("'p0000;ts00;' well()=2 keepOut(1)=0 keepOut(40)=0 days(1)=0 keepOut(1)=0 thing(0,4)=1");
        run("'p0001;' 8*'ts00;' 'd08;ts10;' well()=11 keepOut(1)=8 keepOut(40)=8");
        // Of several the least; two are in the way of one another.
        run("'p0001;ts00;ts00;' well()=3 keepOut(1)=0 'ts00;' well()=1 keepOut(1)=-9 keepOut(2)=0");
        run("'p0000;ts00;ts00;' well()=3 keepOut(40)=-9");
        run("'p9001;' well()=1" + TO_DAY_999 + "'ts00;ts00;' well()=2 keepOut(1)=0 thing(0,4)=1");
    }

    private static void drop() {
        run("drop(-1,0,1,0)=-2 drop(6,0,1,0)=-2 drop(MIN,0,1,0)=-2 drop(MAX,0,1,0)=-2 drop(6,-1,0,2)=-2 drop(-1,10,41,2)=-2"
            + " drop(0,-1,1,0)=-4 drop(0,MIN,1,0)=-4 drop(0,0,0,0)=-4 drop(0,0,-1,0)=-4 drop(0,0,MIN,0)=-4 drop(0,-1,41,2)=-4 drop(0,10,0,2)=-4"
            + " drop(0,10,1,2)=-6 drop(0,MAX,1,0)=-6 drop(0,0,41,2)=-6 drop(0,0,MAX,0)=-6 drop(0,0,1,-1)=-2 drop(0,0,1,2)=-2"
            + " drop(5,9,40,MIN)=-2 drop(5,9,40,MAX)=-2 drop(0,0,1,0)=-9 drop(0,0,1,1)=-9 drop(5,9,40,0)=-9 drop(5,9,40,1)=-9");
        // The BISHOP RISES on DAY 13 and is quiet on DAY 16, if 0 has dropped him.
        run("'p0001;p0000;o9;' well()=3 drop(5,9,12,0)=0 drop(5,9,12,1)=12 drop(5,9,15,0)=0 drop(5,9,15,1)=12 drop(5,9,16,0)=1"
            + " drop(5,9,16,1)=12 drop(5,9,40,0)=1 drop(5,9,40,1)=12 drop(5,9,41,1)=-6 drop(0,0,1,0)=1 drop(0,0,1,1)=0 count(1)=0");
        run("4*'p0001;' 'p0000;' well()=5 drop(0,0,1,0)=4 drop(0,0,1,1)=0 drop(1,0,1,0)=0 drop(1,0,1,1)=1");
        // Eight and nine there are; with nine it is refused all the same.
        run("'p0000;' 8*'ts00;' well()=9 drop(0,0,1,0)=0 drop(0,0,1,1)=0 drop(5,9,40,1)=0 'ts00;' well()=1 drop(0,0,1,0)=-9 drop(0,0,1,1)=-9"
            + " drop(6,0,1,0)=-2 drop(0,-1,1,0)=-4 drop(0,10,1,0)=-6 drop(0,0,1,2)=-2 count(1)=9");
        // A ninth one, dropped by him who must answer eight ahead of it.
        run("'p0001;p0001;' 8*'ts00;' well()=10 drop(0,0,8,0)=0 drop(0,0,8,1)=0 drop(0,0,9,0)=0 drop(0,0,9,1)=1 drop(0,0,40,1)=32");
        run("'p9001;' well()=1" + TO_DAY_999 + "drop(0,0,1,1)=1 drop(0,3,2,1)=1 drop(0,0,40,0)=0 drop(0,0,40,1)=40 count(1)=0");
    }

    private static void again() {
        daysOfAdvice("again");
        // Nobody answers the PENNY any more; it RISES in 10 DAYS.
        run("'p0255;tp90;d12;' well()=3 count(4)=0 learns(0,1)=0 again(9)=-9 again(10)=0 again(40)=0 again(41)=-6 thing(0,4)=0 count(4)=0");
        run("'p0001;ts00;d01;' well()=3 again(1)=-9 learns(0,0)=0 again(1)=0 again(40)=0 thing(0,4)=0 thing(0,3)=0");
        run("'p0255;' 8*'tc70;' 'ts10;d20;' well()=11 count(4)=0 learns(0,1)=0 again(1)=8 again(40)=8");
        // Of several the least; what ASKS already would make more.
        run("'p0255;ts00;ts00;d02;' well()=4 learns(0,0)=0 again(1)=0 again(40)=0");
        run("'p0000;tp90;d10;' well()=3 again(1)=-9 again(40)=-9");
        run("'p0255;o9;th90;d15;' well()=4 count(4)=0 learns(0,6)=0 again(12)=-9 again(13)=0 drought(0)=9 again(3)=-9 again(4)=0");
        run("'p9001;ts00;d10;' well()=3 16*days(60) days(29) count(2)=999 again(1)=-9 shy(0,8)=9 again(1)=0 count(4)=0");
    }

    private static void hardest() {
        run("hardest()=-9 'p0000;' well()=1 hardest()=-9 'ts00;' well()=1 hardest()=0 'tp30;' well()=1 hardest()=0 'tp40;' well()=1 hardest()=2"
            + " 'tc00;tp70;' well()=2 hardest()=2 'tp80;' well()=1 hardest()=5 'tp90;' well()=1 hardest()=5 'tb00;th00;' well()=2 hardest()=7"
            + " count(1)=9");
        // By its KIND, quiet as it is; turned, by the other one.
        run("'p0001;tb00;d04;ts00;' well()=4 thing(0,4)=0 hardest()=0 turn(0,0,0)=50 hardest()=0 turn(1,2,0)=0 hardest()=1 thing(1,4)=1");
    }

    private static void topics() {
        run("topics()=0 'p0000;ts00;' well()=2 topics()=0 days(1)=0 topics()=1 learns(0,0)=1 topics()=1 days(1)=1 topics()=0");
        run("'p0000;ts70;' well()=2 days(2)=1 topics()=0 days(1)=0 topics()=128");
        run("'p0000;ts00;ts10;ts20;ts30;ts40;ts50;ts60;ts70;ts80;' well()=10 days(1)=0 topics()=7 days(1)=0 topics()=63 days(1)=0 topics()=255");
    }

    private static void alike() {
        run("alike(-1)=-2 alike(2)=-2 alike(MIN)=-2 alike(MAX)=-2 alike(0)=0 alike(1)=-9 'p0000;ts00;' well()=2 alike(0)=0 alike(1)=-9"
            + " 'ts10;' well()=1 alike(0)=0 alike(1)=-9 'ts80;' well()=1 alike(0)=1 alike(1)=2 alike(2)=-2");
        run("'p0000;' 9*'ts00;' well()=10 alike(0)=36 alike(1)=1 turn(0,0,1)=0 alike(0)=28 alike(1)=12");
        run("'p0000;ts00;ts10;ts20;ts30;ts40;ts50;ts60;ts70;tc00;' well()=10 alike(0)=1 alike(1)=78 turn(8,0,9)=20 alike(1)=18");
        run("'p0001;ts00;tb00;d05;' well()=4 count(4)=0 alike(0)=1 alike(1)=1");
    }

    private static void knower() {
        run("knower(-1)=-1 knower(8)=-1 knower(MIN)=-1 knower(MAX)=-1 knower(0)=-9 knower(7)=-9 'p0000;' well()=1 knower(0)=-9 learns(0,7)=1"
            + " knower(7)=0 knower(0)=-9 knower(8)=-1");
        run("4*'p0000;' 'p0128;' well()=5 knower(7)=4 knower(6)=-9 learns(3,7)=1 knower(7)=3");
        // Of several the least; who has ANSWERED most is ahead, if he KNOWS it now.
        run("'p0001;p0001;ts01;d01;' well()=4 person(1,2)=1 knower(0)=1 learns(1,0)=0 knower(0)=0 learns(1,0)=1 knower(0)=1 'ts00;d01;' well()=2"
            + " knower(0)=0");
    }

    private static void truth() {
        run("truth()=0 'p0000;' well()=1 truth()=0 9*'ts00;' well()=9 truth()=0 learns(0,0)=1 truth()=9 days(9)=1 truth()=9");
        run("'p0128;p0000;ts70;ts00;ts71;' well()=5 truth()=1 learns(1,7)=1 truth()=2 learns(1,0)=1 truth()=2");
    }

    private static void two() {
        run("two(0,1,1)=-1 'p0000;' well()=1 two(0,0,1)=-1 two(0,1,1)=-1 two(1,0,1)=-1 'p0000;' well()=1 two(0,1,1)=0 two(1,0,40)=0 two(0,1,0)=-4"
            + " two(0,1,-1)=-4 two(0,1,41)=-6 two(0,0,0)=-1 two(1,1,41)=-1 two(2,0,41)=-1 two(0,2,0)=-1 two(-1,0,0)=-1 two(0,-1,1)=-1"
            + " two(MIN,0,1)=-1 two(0,MAX,1)=-1 two(0,1,MIN)=-4 two(0,1,MAX)=-6");
        run("5*'p0000;' well()=5 two(4,3,1)=0 two(4,5,1)=-1 two(5,4,1)=-1 two(4,4,1)=-1");
        // He answers on DAY 10 .. 40, and must not any more behind 40 DAYS.
        run("'p9001;p0000;tb00;' well()=3 two(0,1,39)=10 two(1,0,39)=1 two(0,1,40)=0 two(1,0,40)=0 person(0,0)=1 count(2)=0 thing(0,4)=4");
        run("'p1001;p0000;ts00;' well()=3 two(0,1,1)=10 two(0,1,2)=0 two(1,0,1)=1 two(1,0,2)=0");
        // He must still answer, and it is worth 2, 3, 4 DAYS with WATER less: silent, not, not.
        run("'p0001;p0000;ts00;tr90;' well()=4 two(0,1,2)=10 two(0,1,3)=0 two(0,1,4)=0");
        run("'p0000;p0000;ts00;ts01;' well()=4 two(0,1,40)=11 two(1,0,1)=11");
        // Three DAYS with WATER whatever they do: both silent is better than one alone.
        run("'p0000;p0000;ts90;ts91;' well()=4 two(0,1,3)=11 two(0,1,5)=11 two(1,0,40)=11");
        run("4*'p0000;' 'p0001;ts04;tr94;' well()=7 two(4,0,2)=10 two(0,4,2)=1 two(4,3,3)=0");
        run("'p9001;p0000;' well()=2" + TO_DAY_999 + "'ts00;' well()=1 two(0,1,1)=0 shy(0,8)=9 two(0,1,1)=10 two(0,1,9)=0");
    }

    public static void main(String[] args) {
        teach();
        bold();
        fewest();
        keepOut();
        drop();
        again();
        hardest();
        topics();
        alike();
        knower();
        truth();
        two();
        c.end();
    }
}
