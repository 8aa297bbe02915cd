/** Promises 4 to 12 and 39 to 41 at their edges. */
public final class StateEdgesTest {
    private static final Check c = new Check();

    private static void run(String text) {
        Script.run(c, text);
    }

    private static void person() {
        run("person(0,0)=-1 person(0,4)=-1 'p0000;' well()=1 person(0,0)=0 person(1,0)=-1 person(-1,0)=-1 person(MIN,0)=-1"
            + " person(MAX,0)=-1 person(0,-1)=-2 person(0,4)=-2 person(0,MIN)=-2 person(0,MAX)=-2 person(1,4)=-1 person(-1,-1)=-1"
            + " person(0,3)=0");
        run("'p0000;p9255;p1001;p2002;p3128;' well()=5 person(0,0)=0 person(0,1)=0 person(0,2)=0 person(0,3)=0 person(1,0)=255"
            + " person(1,1)=9 person(4,0)=128 person(4,1)=3 person(4,2)=0 person(4,3)=0 person(5,0)=-1 person(4,4)=-2");
        // QUEUE of all there can be: nine BISHOPS, answered one by one.
        run("'p0001;p0000;' 9*'tb00;' well()=11 person(0,3)=36 person(1,3)=0 days(35)=0 person(0,3)=1 person(0,2)=35 days(1)=1"
            + " person(0,3)=0 person(0,2)=36 person(1,2)=0 days(1)=1 person(0,2)=36");
    }

    private static void thing() {
        run("thing(0,0)=-1 'p0000;' well()=1 thing(0,0)=-1 thing(0,7)=-1 'ts00;' well()=1 thing(0,0)=0 thing(0,6)=0 thing(1,0)=-1"
            + " thing(-1,0)=-1 thing(MIN,0)=-1 thing(MAX,0)=-1 thing(0,-1)=-2 thing(0,7)=-2 thing(0,MIN)=-2 thing(0,MAX)=-2"
            + " thing(1,7)=-1 thing(-1,-1)=-1");
        run("'p0000;p0000;' 8*'ts00;' 'tb91;' well()=11 thing(8,0)=5 thing(8,1)=9 thing(8,2)=1 thing(8,3)=4 thing(8,4)=4"
            + " thing(8,5)=0 thing(8,6)=0 thing(9,0)=-1 thing(8,7)=-2");
        // DAYS till it RISES: one above 0, at 0, and it stays 0.
        run("'p0000;ts30;' well()=2 thing(0,3)=2 thing(0,6)=0 days(1)=1 thing(0,3)=1 thing(0,6)=0 days(1)=0 thing(0,3)=0 thing(0,6)=1"
            + " days(1)=0 thing(0,3)=0 thing(0,6)=1 thing(0,4)=1 learns(0,3)=1 answers(0)=0 thing(0,6)=0 thing(0,3)=0 thing(0,4)=0"
            + " days(1)=1 thing(0,4)=0");
    }

    private static void drops() {
        run("drops(0)=-1 'p0000;' well()=1 drops(0)=-1 'ts00;' well()=1 drops(1)=-1 drops(-1)=-1 drops(MIN)=-1 drops(MAX)=-1 drops(0)=1");
        run("'p0000;' 9*'tp90;' well()=10 days(9)=1 drops(8)=10 drops(9)=-1 days(1)=0 thing(7,6)=1 thing(8,6)=0 thing(8,3)=9 days(8)=0"
            + " thing(8,3)=1 days(1)=0 thing(8,3)=0 thing(8,6)=1");
        // Quiet, and LEFT as at first again; by the same one.
        run("'p0000;p0001;tb01;d04;' well()=4 thing(0,4)=0 drops(0)=1 thing(0,4)=4 thing(0,3)=1 thing(0,2)=1");
        // By DROUGHT as it is when it is DROPPED.
        run("'p0000;th00;' well()=2 thing(0,3)=1 drought(9)=0 thing(0,3)=1 drops(0)=10 drought(0)=9 thing(0,3)=10 drops(0)=1");
    }

    private static void learns() {
        run("learns(0,0)=-1 'p0000;' well()=1 learns(1,0)=-1 learns(-1,0)=-1 learns(0,8)=-1 learns(0,-1)=-1 learns(0,32)=-1"
            + " learns(MIN,0)=-1 learns(MAX,0)=-1 learns(0,MIN)=-1 learns(0,MAX)=-1 person(0,0)=0 learns(0,0)=1 person(0,0)=1"
            + " learns(0,8)=-1 learns(0,7)=1 person(0,0)=129 learns(0,0)=0 person(0,0)=128 learns(0,7)=0 person(0,0)=0");
        run("5*'p0255;' well()=5 learns(4,7)=0 person(4,0)=127 learns(5,7)=-1 learns(4,7)=1 person(4,0)=255 person(3,0)=255"
            + " learns(0,0)=0 person(0,0)=254 learns(4,8)=-1");
    }

    private static void shy() {
        run("shy(0,0)=-1 'p0000;' well()=1 shy(0,-1)=-4 shy(0,10)=-6 shy(1,-1)=-1 shy(1,10)=-1 shy(-1,0)=-1 shy(MIN,0)=-1 shy(MAX,0)=-1"
            + " shy(0,MIN)=-4 shy(0,MAX)=-6 person(0,1)=0 shy(0,9)=0 shy(0,10)=-6 shy(0,-1)=-4 person(0,1)=9 shy(0,0)=9 person(0,1)=0");
        run("5*'p0000;' well()=5 shy(4,9)=0 shy(5,9)=-1 person(4,1)=9 person(3,1)=0 shy(4,8)=9");
        // SHY 9: on DAYS 10 and 20, not on 9, 11 or 19; SHY 0: on each.
        run("'p9001;tb00;' well()=2 days(9)=0 thing(0,4)=4 days(1)=0 thing(0,4)=3 days(1)=0 thing(0,4)=3 days(8)=0 thing(0,4)=3"
            + " days(1)=0 thing(0,4)=2 shy(0,0)=9 days(1)=0 thing(0,4)=1 days(1)=1 thing(0,4)=0");
        // SHY 1: on even DAYS.
        run("'p1001;tb00;' well()=2 days(1)=0 thing(0,4)=4 days(1)=0 thing(0,4)=3 days(1)=0 thing(0,4)=3 days(1)=0 thing(0,4)=2");
    }

    private static void drought() {
        run("drought(-1)=-4 drought(10)=-6 drought(MIN)=-4 drought(MAX)=-6 count(5)=0 drought(0)=0 drought(9)=0 count(5)=9"
            + " drought(10)=-6 drought(-1)=-4 count(5)=9 drought(1)=9 drought(0)=1 count(5)=0");
    }

    private static void turn() {
        run("turn(0,0,0)=-1 'p0000;ts00;' well()=2 turn(1,0,0)=-1 turn(-1,6,10)=-1 turn(MIN,0,0)=-1 turn(MAX,0,0)=-1 turn(0,-1,-1)=-2"
            + " turn(0,6,10)=-2 turn(0,MIN,0)=-2 turn(0,MAX,0)=-2 turn(0,0,-1)=-4 turn(0,0,10)=-6 turn(0,5,MIN)=-4 turn(0,5,MAX)=-6"
            + " thing(0,0)=0 thing(0,1)=0 turn(0,5,9)=0 turn(0,6,9)=-2 turn(0,5,10)=-6 thing(0,0)=5 thing(0,1)=9 turn(0,0,0)=59"
            + " turn(0,4,9)=0 turn(0,0,9)=49");
        // All else stays.
        run("'p0000;p0000;ts01;' well()=3 turn(0,5,9)=0 thing(0,2)=1 thing(0,3)=1 thing(0,4)=1 thing(0,5)=0 turn(0,3,7)=59 thing(0,5)=0"
            + " turn(0,2,0)=37 thing(0,5)=7 thing(0,3)=1 thing(0,4)=1 count(2)=0 drops(0)=1 thing(0,4)=2");
        run("'p0000;' 9*'tb90;' well()=10 turn(9,0,0)=-1 turn(8,0,0)=59 thing(8,4)=4 thing(8,3)=4 thing(7,0)=5 drops(8)=1 thing(8,4)=1");
    }

    private static void answers() {
        run("answers(0)=-1 'p0001;' well()=1 answers(0)=-1 'tb00;' well()=1 answers(0)=-3 answers(1)=-1 answers(-1)=-1 answers(MIN)=-1"
            + " answers(MAX)=-1 learns(0,0)=0 days(1)=0 answers(0)=-3 learns(0,0)=1 answers(0)=3 person(0,2)=1 answers(0)=2 answers(0)=1"
            + " answers(0)=0 answers(0)=-3 person(0,2)=4 count(2)=1 drops(0)=1 answers(0)=-3 person(0,2)=4");
        // One DAY before it RISES, and on that DAY; that he is SHY does not matter.
        run("'p9008;ts30;' well()=2 days(1)=1 answers(0)=-3 days(1)=0 answers(0)=0 answers(0)=-3 person(0,2)=1");
        // That another one KNOWS it does not help.
        run("'p9000;p9255;ts00;ts01;d01;' well()=5 answers(0)=-3 answers(1)=0 person(0,2)=0 person(1,2)=1");
        run("'p9001;' 9*'ts00;' 'd01;' well()=11 answers(8)=0 answers(9)=-1 answers(8)=-3 thing(7,4)=1 thing(0,4)=1");
    }

    private static void days() {
        run("days(0)=-4 days(-1)=-4 days(61)=-6 days(MIN)=-4 days(MAX)=-6 count(2)=0 days(1)=1 count(2)=1 days(60)=1 count(2)=61"
            + " 15*days(60) count(2)=961 days(39)=-6 days(60)=-6 count(2)=961 days(38)=1 count(2)=999 days(1)=-6 days(60)=-6 days(0)=-4"
            + " days(61)=-6 count(2)=999");
        run("15*days(60) days(39)=1 count(2)=939 days(60)=1 count(2)=999");
        run("15*days(60) days(40)=1 count(2)=940 days(60)=-6 days(59)=1 count(2)=999");
        // On a DAY that is refused nothing RISES.
        run("'p0001;ts00;' well()=2 days(61)=-6 days(0)=-4 thing(0,3)=1 days(1)=1 thing(0,3)=0 thing(0,4)=0");
        // It RISES and is answered on one DAY; only the least one; of what he KNOWS; each by himself.
        run("'p0001;ts00;ts00;' well()=3 days(1)=0 thing(0,4)=0 thing(1,4)=1 days(1)=1 thing(1,4)=0 person(0,2)=2");
        run("'p0002;ts00;ts10;' well()=3 days(1)=0 thing(0,4)=1 thing(1,4)=0 days(60)=0 thing(0,4)=1");
        run("5*'p0001;' 'ts04;ts04;ts03;' well()=8 days(1)=0 thing(0,4)=0 thing(1,4)=1 thing(2,4)=0 person(4,2)=1 person(3,2)=1");
        run("'p0001;p0000;ts01;' well()=3 days(60)=0 thing(0,4)=1 person(0,2)=0");
    }

    private static void image() {
        run("on()=-3 on()=-3 image()=0 on()=0 'p0000;ts00;d01;o3;' well()=4 on()=0 count(0)=0 count(1)=0 count(2)=0 count(5)=0 person(0,0)=-1"
            + " thing(0,0)=-1 on()=0");
        run("5*'p0255;' 9*'tb04;' well()=14 image()=0 days(60)=1 learns(4,0)=0 shy(4,9)=0 turn(8,0,9)=50 drought(9)=0 on()=0 person(4,0)=255"
            + " person(4,1)=0 person(4,2)=0 person(4,3)=36 thing(8,0)=5 thing(8,1)=0 thing(8,3)=1 count(5)=0 count(0)=5 count(1)=9");
        run("16*days(60) days(39) image()=999 days(1)=-6 on()=999 days(1)=-6 count(2)=999");
        // The ROW, letters, REFUSALS are not of the image, neither more nor fewer.
        run("row(5)=1 'p' days(0)=-4 image()=0 row(6)=2 '0' days(0)=-4 on()=0 count(6)=2 count(7)=2 count(14)=2 clear()=2 well()=-1002"
            + " on()=0 count(6)=0 count(7)=0 judge()=-9");
        run("row(1)=1 image()=0 clear()=1 row(0)=1 on()=0 judge()=-9");
        // Who comes behind ON is a new one, though one was there who had ANSWERED.
        run("image()=0 'p3001;ts00;d04;' well()=3 person(0,2)=1 on()=0 'p0001;ts00;' well()=2 person(0,2)=0 person(0,1)=0 thing(0,3)=1 thing(0,4)=1");
        // ON does not end the image, and the image is not the object: what is done behind ON is not in it.
        run("'p0000;' well()=1 image()=0 learns(0,0)=1 on()=0 learns(0,7)=1 on()=0 person(0,0)=0 days(5)=1 image()=5 days(5)=1 on()=5 on()=5");
    }

    private static void count() {
        run("count(-1)=-9 count(8)=-9 count(9)=-9 count(10)=-9 count(17)=-9 count(MIN)=-9 count(MAX)=-9 count(12)=0");
        run("count(11)=0 person(0,0)=-1 count(11)=1 first(9)=-2 count(12)=1 on()=-3 count(13)=1 days(0)=-4 count(14)=1 days(61)=-6 count(16)=1"
            + " count(15)=0 cold(-1,2,0)=L4 count(14)=2 cold(8,2,0)=L6 count(16)=2 mean(2)=L2 count(12)=2 person(0,0)=-1 count(11)=2"
            + " well()=-1000 judge()=-9 busiest()=-9 count(11)=2 count(13)=1");
        run("5*'p0000;' 9*'tb04;' well()=14 days(1)=0 count(0)=5 count(1)=9 count(2)=1 count(3)=511 count(4)=36 drought(9)=0 count(5)=9"
            + " 16*row(0) count(6)=16 row(0)=-6 count(6)=16 32*'o1;' count(7)=96 letter(111)=-6 count(7)=96 days(58)=0 count(2)=59");
    }

    public static void main(String[] args) {
        person();
        thing();
        drops();
        learns();
        shy();
        drought();
        turn();
        answers();
        days();
        image();
        count();
        c.end();
    }
}
