/** Promises 32 to 38 at their edges. */
public final class ChanceEdgesTest {
    private static final Check c = new Check();
    private static final String TO_DAY_999 = " 16*days(60) days(39) count(2)=999 ";

    private static void run(String text) {
        Script.run(c, text);
    }

    private static void cold() {
        run("cold(-1,2,0)=L4 cold(MIN,2,0)=L4 cold(0,1,0)=L4 cold(0,0,0)=L4 cold(0,MIN,0)=L4 cold(8,1,0)=L4 cold(-1,21,2)=L4 cold(8,2,2)=L6"
            + " cold(MAX,2,0)=L6 cold(0,21,0)=L6 cold(0,MAX,2)=L6 cold(0,2,-1)=L2 cold(7,20,2)=L2 cold(0,2,MIN)=L2 cold(0,2,MAX)=L2"
            + " cold(0,2,0)=1 cold(0,2,1)=1 cold(7,20,0)=1 cold(7,20,1)=1 count(12)=4 count(14)=7 count(16)=4");
        run("'p0001;ts00;' well()=2 cold(0,2,0)=1 cold(0,2,1)=1 cold(1,2,0)=1 cold(1,2,1)=2 cold(1,20,0)=19 cold(1,20,1)=20 cold(7,2,0)=127"
            + " cold(7,2,1)=128 cold(8,2,1)=L6 cold(7,20,0)=1279999999 cold(7,20,1)=1280000000 count(2)=0 thing(0,4)=1 thing(0,3)=1");
        // 0 is 0 by 1; at 0 DAYS it is as it is.
        run("'p0000;ts00;' well()=2 cold(0,20,0)=1 cold(0,20,1)=1 cold(1,2,0)=0 cold(1,2,1)=1 cold(7,20,0)=0 cold(7,20,1)=1 days(1)=0 cold(0,2,0)=0"
            + " cold(0,2,1)=1 cold(7,2,0)=0 cold(7,2,1)=1");
        // In least terms: two warm DAYS of three are 4 by 8; of two, 1 by 4; of three with 1 in 3 cold, 20 by 27.
        run("'p0255;tc00;' well()=2 cold(3,2,0)=1 cold(3,2,1)=2 cold(2,2,0)=1 cold(2,2,1)=4 cold(1,2,0)=0 cold(1,2,1)=1 cold(3,3,0)=20"
            + " cold(3,3,1)=27 cold(3,4,0)=27 cold(3,4,1)=32 cold(2,20,0)=361 cold(2,20,1)=400");
        // It RISES on DAY 4: on the DAYS ahead of it there is WATER for certain.
        run("'p0255;ts90;' well()=2 cold(3,20,0)=1 cold(3,20,1)=1 cold(4,20,0)=19 cold(4,20,1)=20 cold(7,2,0)=15 cold(7,2,1)=16");
        // On a cold DAY all else goes on: he who is SHY has missed his DAY.
        run("'p4001;ts00;' well()=2 cold(4,3,0)=0 cold(4,3,1)=1 cold(5,3,0)=2 cold(5,3,1)=3 cold(7,3,0)=2 cold(7,3,1)=3");
        run("'p0001;' 9*'ts00;' well()=10 cold(7,2,0)=0 cold(7,2,1)=1 answers(0)=-3 days(1)=0 answers(8)=0 cold(7,2,0)=1 cold(7,2,1)=128");
        run("'p9001;' well()=1" + TO_DAY_999 + "'ts00;' well()=1 cold(1,3,0)=2 cold(1,3,1)=3 cold(7,3,0)=2 cold(7,3,1)=3 count(2)=999");
    }

    private static void mean() {
        run("mean(-1)=L2 mean(2)=L2 mean(MIN)=L2 mean(MAX)=L2 mean(0)=0 mean(1)=1 'p0000;' well()=1 mean(0)=0 mean(1)=1 'tb00;' well()=1 mean(0)=4"
            + " mean(1)=1 'tc00;' well()=1 mean(0)=3 mean(1)=1 'ts00;' well()=1 mean(0)=7 mean(1)=3 mean(2)=L2 mean(1)=3");
        run("'p0000;' 8*'ts00;' 'tc00;' well()=10 mean(0)=10 mean(1)=9 turn(0,5,0)=0 drops(0)=1 mean(0)=13 mean(1)=9 drops(8)=1 turn(8,4,4)=20"
            + " drops(8)=6 mean(0)=13 mean(1)=9 turn(8,4,0)=44 drops(8)=4 mean(0)=4 mean(1)=3");
        run("'p0001;ts00;ts00;d02;' well()=4 mean(0)=0 mean(1)=1");
    }

    private static void whatWas() {
        run("whatWas(0,0)=-1 row(1)=1 whatWas(0,2)=-1 'p0000;ts00;' well()=2 whatWas(1,0)=-1 whatWas(-1,2)=-1 whatWas(MIN,0)=-1 whatWas(MAX,1)=-1"
            + " whatWas(0,-1)=-2 whatWas(0,2)=-2 whatWas(0,MIN)=-2 whatWas(0,MAX)=-2 count(6)=1 whatWas(0,0)=19 whatWas(0,1)=1023 count(6)=1");
        // No ROW: all are so. 0 and 99 as the first number: none is. 4: the BISHOP alone.
        run("'p0000;ts00;' well()=2 whatWas(0,0)=63 whatWas(0,1)=1023 row(99)=1 whatWas(0,0)=0 whatWas(0,1)=0 clear()=1 row(0)=1 whatWas(0,0)=0"
            + " whatWas(0,1)=0 clear()=1 row(4)=1 whatWas(0,0)=32 whatWas(0,1)=0 clear()=1 whatWas(0,0)=63");
        // 16 numbers: LEFT is 1 till he answers on DAY 10; one DAY too early, one too late, and the last one wrong.
        run("'p9001;ts00;' well()=2 10*row(1) 6*row(0) count(6)=16 whatWas(0,0)=19 whatWas(0,1)=257 count(6)=16 row(0)=-6 whatWas(0,1)=257");
        run("'p9001;ts00;' well()=2 9*row(1) 7*row(0) whatWas(0,0)=0 whatWas(0,1)=0 clear()=16 11*row(1) 5*row(0) whatWas(0,0)=0 whatWas(0,1)=0"
            + " clear()=16 10*row(1) 5*row(0) row(1)=16 whatWas(0,0)=0 whatWas(0,1)=0");
        // The WEIGHT's edges of a PENNY: 3 and 4, 7 and 8.
        run("'p0000;tp50;' well()=2 row(1)=1 whatWas(0,1)=15 clear()=1 row(2)=1 whatWas(0,1)=240 whatWas(0,0)=28 clear()=1 row(3)=1 whatWas(0,1)=768"
            + " whatWas(0,0)=0");
        run("'p0000;' 9*'ts00;' well()=10 whatWas(8,0)=63 whatWas(9,0)=-1 row(1)=1 whatWas(8,1)=1023");
        // Were it dropped anew now: by DROUGHT now, though it is quiet; and it stays as it is.
        run("'p0129;th00;d05;o2;' well()=4 thing(0,4)=0 row(2)=1 row(2)=2 row(2)=3 row(1)=4 row(0)=5 whatWas(0,0)=8 whatWas(0,1)=1 thing(0,4)=0"
            + " thing(0,3)=0 drought(0)=2 whatWas(0,0)=0");
        run("'p9001;' well()=1" + TO_DAY_999 + "'ts00;' well()=1 row(1)=1 row(0)=2 whatWas(0,0)=1 whatWas(0,1)=1 count(2)=999");
    }

    private static void row() {
        run("row(-1)=-4 row(100)=-6 row(MIN)=-4 row(MAX)=-6 count(6)=0 row(0)=1 row(99)=2 row(-1)=-4 row(100)=-6 count(6)=2 13*row(5) count(6)=15"
            + " row(100)=-6 row(5)=16 row(5)=-6 row(0)=-6 row(99)=-6 row(100)=-6 row(-1)=-4 count(6)=16 clear()=16 row(99)=1 count(6)=1");
        // What was refused is not in it.
        run("row(0)=1 row(100)=-6 row(-1)=-4 row(0)=2 judge()=-9 15*row(0) row(100)=-6 row(0)=16 row(1)=-6 judge()=-9");
    }

    private static void judge() {
        run("judge()=-9 row(0)=1 judge()=-9 count(6)=0 row(1)=1 judge()=0 count(6)=0 judge()=-9 row(99)=1 judge()=0");
        run("16*row(0) judge()=-9 count(6)=0 15*row(0) row(1)=16 judge()=15 count(6)=0 row(1)=1 15*row(0) judge()=0 row(0)=1");
        // Behind 0 DAYS none ASKS, behind 1 all nine; the first of several that are not so.
        run("'p0000;' 9*'ts00;' well()=10 row(0)=1 row(9)=2 row(9)=3 judge()=-9 row(0)=1 row(8)=2 judge()=1 row(0)=1 row(10)=2 judge()=1 row(9)=1"
            + " row(0)=2 judge()=0 row(0)=1 row(9)=2 row(8)=3 row(8)=4 judge()=2 count(2)=0");
        run("'p0001;ts00;ts00;tr00;' well()=4 row(0)=1 row(1)=2 row(1)=3 row(0)=4 judge()=-9 days(1)=0 row(1)=1 row(1)=2 row(0)=3 judge()=-9");
        run("'p9001;' well()=1" + TO_DAY_999 + "'ts00;tr00;' well()=2 row(0)=1 row(0)=2 9*row(1) row(0)=12 judge()=-9 11*row(0) row(1)=12 judge()=2");
    }

    private static void clear() {
        run("clear()=0 row(7)=1 clear()=1 clear()=0 16*row(1) clear()=16 count(6)=0 clear()=0 judge()=-9 row(100)=-6 clear()=0");
    }

    private static void lots() {
        run("lots(0,0,0)=-4 lots(-1,0,0)=-4 lots(MIN,0,0)=-4 lots(21,0,0)=-6 lots(MAX,0,0)=-6 lots(0,0,2)=-4 lots(21,0,-1)=-6 lots(1,0,2)=-2"
            + " lots(20,0,-1)=-2 lots(1,0,MIN)=-2 lots(1,0,MAX)=-2 lots(1,0,0)=-3 lots(20,0,1)=-3 'p0000;' well()=1 lots(1,0,0)=15 lots(20,0,0)=300"
            + " lots(20,0,1)=0 lots(21,0,0)=-6 lots(0,0,0)=-4 lots(1,0,2)=-2");
        // Of one alone each seed is the same.
        run("'p0001;ts00;' well()=2 lots(1,MIN,0)=15 lots(1,MAX,0)=15 lots(20,-1,0)=300 lots(20,0,1)=20 lots(1,0,1)=1 thing(0,4)=1 count(2)=0");
        // DRAWS below 2 from 0 (and MIN): 1 1 0 1 1 0 0 1 0 1; from -1 (and MAX): 1 0 0 1 0 1 0 1 1 1. Who has 0 answers it at once.
        run("'p0001;p0000;ts00;' well()=3 lots(2,0,0)=0 lots(3,0,0)=15 lots(6,0,0)=30 lots(10,0,0)=60 lots(10,0,1)=4 lots(2,MIN,0)=0 lots(3,MIN,0)=15"
            + " lots(10,MIN,1)=4 lots(1,-1,0)=0 lots(2,-1,0)=15 lots(10,-1,1)=4 lots(2,MAX,0)=15 lots(3,MAX,1)=2 lots(10,MAX,0)=60");
        // Below 5 from 0: 3 2 1 4 4 0 4 2 4 0.
        run("4*'p0000;' 'p0001;ts00;' well()=6 lots(3,0,1)=0 lots(4,0,1)=1 lots(5,0,1)=2 lots(6,0,1)=2 lots(10,0,1)=4 lots(10,0,0)=60");
        // Nine THINGS, each with a DRAW of its own, by numbers: 0 has 2, 5, 6 and 8.
        run("'p0001;p0000;' 9*'ts00;' well()=11 lots(1,0,0)=0 lots(1,0,1)=4 learns(1,0)=1 lots(1,0,0)=11 lots(1,0,1)=9");
        // 15 DAYS: the 15th is in, the 16th is not. On DAYS 8 and 16 he answers; from DAY 1 on DAY 16 is the 15th.
        run("'p7001;ts00;ts00;' well()=3 lots(1,0,0)=0 lots(1,0,1)=1 days(1)=0 lots(1,0,0)=1 lots(1,0,1)=2 days(1)=0 lots(1,0,0)=2");
        // By DROUGHT now, though it is quiet.
        run("'p0001;th70;d05;' well()=3 lots(1,0,0)=14 lots(1,0,1)=2 drought(9)=0 lots(1,0,0)=14 lots(20,0,1)=40 thing(0,4)=0 thing(0,3)=0");
        run("'p9001;' well()=1" + TO_DAY_999 + "'ts00;' well()=1 lots(1,0,0)=15 lots(1,0,1)=1 count(2)=999");
    }

    /** ANSWERED 998, 999 and no more: 27 rounds of nine BISHOPS are 972 answers, and 26 more. */
    private static void mostAnswered() {
        StringBuilder round = new StringBuilder();
        for (int i = 0; i < 9; i++) {
            round.append("drops(").append(i).append(") ");
        }
        String drops = round.toString();
        run("'p0255;' 9*'tb00;' well()=10 days(36)=1 " + (drops + "days(36)=1 ").repeat(26) + "person(0,2)=972 " + drops + "days(26)=0 person(0,2)=998"
            + " image()=998 lots(1,0,1)=1 lots(20,0,1)=20 lots(1,0,0)=0 answers(8)=3 person(0,2)=999 answers(8)=2 person(0,2)=999 days(1)=0"
            + " person(0,2)=999 count(4)=7 lots(20,0,1)=0 knower(0)=0 on()=998 person(0,2)=998 days(1)=0 person(0,2)=999 answers(8)=3"
            + " person(0,2)=999");
    }

    public static void main(String[] args) {
        cold();
        mean();
        whatWas();
        row();
        judge();
        clear();
        lots();
        mostAnswered();
        c.end();
    }
}
