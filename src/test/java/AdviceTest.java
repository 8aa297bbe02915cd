/** Promises 20 to 31: advice, and what can be looked up in what there is. */
public final class AdviceTest {
    private static final Check c = new Check();

    private static void teach() {
        ComesUpAsAQuestion x = Check.told("p0000;ts30;ts60;");
        c.due("teach(1): there is WATER all the same", x.teach(1), -9);
        c.due("teach(2)", x.teach(2), 3);
        c.due("teach(40)", x.teach(40), 3);
        c.due("teach, another one", Check.told("p0000;p0000;ts31;").teach(5), 13);
        c.due("teach, the last TOPIC of the last one", Check.told("p0000;p0000;p0000;p0000;p0000;tc04;").teach(9), 47);
        c.due("teach, one lesson is not enough", Check.told("p0000;p0000;ts00;ts11;").teach(9), -9);
        c.due("teach, too shy for it", Check.told("p9000;ts00;").teach(9), -9);
        c.due("teach, not too shy for it", Check.told("p9000;ts00;").teach(10), 0);
        c.due("teach, all else stays known", Check.told("p0001;ts00;ts30;").teach(3), 3);
        c.due("teach(0)", x.teach(0), -4);
        c.due("teach(41)", x.teach(41), -6);
    }

    private static void bold() {
        c.due("bold, of several the least", Check.told("p1001;p1064;ts00;ts61;").bold(5), 0);
        c.due("bold, the other", Check.told("p0001;p1064;ts00;ts61;").bold(5), 1);
        ComesUpAsAQuestion x = Check.told("p1001;p5064;ts00;ts61;");
        c.due("bold(1)", x.bold(1), 0);
        c.due("bold(8)", x.bold(8), 1);
        c.due("SHY stays", x.person(1, 1), 5);
        c.due("bold, nobody is shy", Check.told("p0001;ts00;").bold(40), -9);
        c.due("bold(0)", x.bold(0), -4);
        c.due("bold(41)", x.bold(41), -6);
    }

    private static void fewest() {
        ComesUpAsAQuestion x = Check.told("p0000;p0000;ts00;ts00;ts80;ts11;ts21;");
        c.due("fewest(0)", x.fewest(0), 3);
        c.due("fewest(1)", x.fewest(1), 1);
        x.learns(1, 1);
        c.due("fewest(0)", x.fewest(0), 2);
        c.due("fewest(1), of several the least", x.fewest(1), 0);
        c.due("fewest(2)", x.fewest(2), -2);
        c.due("fewest(-1)", x.fewest(-1), -2);
        x.learns(0, 0);
        x.learns(1, 2);
        c.due("fewest(0)", x.fewest(0), 0);
        c.due("fewest(1) nobody does", x.fewest(1), -9);
    }

    private static void keepOut() {
        ComesUpAsAQuestion x = Check.told("p1001;p5064;ts00;ts61;");
        c.due("keepOut(2)", x.keepOut(2), 0);
        c.due("keepOut(8)", x.keepOut(8), 1);
        c.due("LEFT stays", x.thing(1, 4), 1);
        c.due("keepOut, of several the least", Check.told("p1001;p1064;ts00;ts61;").keepOut(5), 0);
        c.due("keepOut, one is not enough", Check.told("p0000;ts00;ts00;").keepOut(5), -9);
        c.due("keepOut(0)", x.keepOut(0), -4);
        c.due("keepOut(41)", x.keepOut(41), -6);
    }

    private static void drop() {
        ComesUpAsAQuestion x = Check.told("p0255;p9001;");
        c.due("drop(0, 0, 10, 0)", x.drop(0, 0, 10, 0), 1);
        c.due("drop(0, 0, 10, 1)", x.drop(0, 0, 10, 1), 1);
        c.due("nothing has been dropped", x.count(1), 0);
        ComesUpAsAQuestion y = Check.told("p0255;p0255;o2;");
        c.due("drop, of several the least", y.drop(0, 0, 5, 0), 0);
        c.due("drop, how many all the same", y.drop(0, 0, 5, 1), 5);
        c.due("drop, a BISHOP: 3 DAYS without", y.drop(5, 0, 10, 1), 7);
        c.due("drop, 9 there are", Check.told("p0000;ts00;ts00;ts00;ts00;ts00;ts00;ts00;ts00;ts00;").drop(0, 0, 1, 0), -9);
        c.due("drop, 9 there are", Check.told("p0000;ts00;ts00;ts00;ts00;ts00;ts00;ts00;ts00;ts00;").drop(0, 0, 1, 1), -9);
        c.due("drop, a ninth", Check.told("p0000;ts00;ts00;ts00;ts00;ts00;ts00;ts00;ts00;").drop(0, 0, 1, 0), 0);
        c.due("drop, nobody", new ComesUpAsAQuestion().drop(0, 0, 1, 0), -9);
        c.due("drop(-1, -1, 0, 9)", x.drop(-1, -1, 0, 9), -2);
        c.due("drop(6, -1, 0, 9)", x.drop(6, -1, 0, 9), -2);
        c.due("drop(0, -1, 41, 9)", x.drop(0, -1, 41, 9), -4);
        c.due("drop(0, 10, 0, 9)", x.drop(0, 10, 0, 9), -4);
        c.due("drop(0, 10, 1, 9)", x.drop(0, 10, 1, 9), -6);
        c.due("drop(0, 0, 41, 9)", x.drop(0, 0, 41, 9), -6);
        c.due("drop(0, 9, 40, 2)", x.drop(0, 9, 40, 2), -2);
        c.due("drop(0, 9, 40, -1)", x.drop(0, 9, 40, -1), -2);
    }

    private static void again() {
        ComesUpAsAQuestion x = Check.told("p9255;ts00;tb00;d50;");
        c.due("all is quiet", x.count(4), 0);
        c.due("again(5), of several the least", x.again(5), 0);
        c.due("again(20)", x.again(20), 1);
        c.due("nothing has been dropped", x.count(4), 0);
        c.due("again, none makes fewer", Check.told("p0000;ts00;d01;").again(9), -9);
        c.due("again, nothing there", Check.told("p0000;").again(9), -9);
        c.due("again(0)", x.again(0), -4);
        c.due("again(41)", x.again(41), -6);
    }

    private static void lookedUp() {
        ComesUpAsAQuestion x = Check.told("p0003;p0131;ts90;tp71;tc61;tp80;th71;tb81;");
        c.due("hardest()", x.hardest(), 5);
        x.turn(5, 0, 0);
        c.due("hardest() by KIND", x.hardest(), 3);
        x.turn(4, 4, 9);
        c.due("hardest(), of several the least", x.hardest(), 3);
        c.due("hardest() of none", Check.told("p0000;").hardest(), -9);
        // TOPICS: 1, 7, 1, 0, 1, 0.
        c.due("alike(0)", x.alike(0), 4);
        c.due("alike(1)", x.alike(1), 2);
        c.due("alike(2)", x.alike(2), -2);
        c.due("alike(-1)", x.alike(-1), -2);
        c.due("alike(1) of none", Check.told("p0000;ts00;ts10;").alike(1), -9);
        c.due("alike(1) of the last two", Check.told("p0000;ts00;ts10;tc50;ts20;").alike(1), 23);
        c.due("truth()", x.truth(), 6);
        x.learns(1, 1);
        c.due("truth()", x.truth(), 4);
        c.due("topics() of what has not risen", x.topics(), 0);
        c.due("topics()", Check.told("p0000;ts00;ts20;tc00;ts90;d01;").topics(), 1 + 4 + 128);
    }

    private static void knower() {
        ComesUpAsAQuestion x = Check.told("p9001;p0003;p0003;ts02;ts01;ts01;");
        c.due("knower(0), of several the least", x.knower(0), 0);
        x.days(1);
        c.due("knower(0), has ANSWERED", x.knower(0), 1);
        c.due("knower(1)", x.knower(1), 1);
        x.learns(1, 0);
        c.due("knower(0)", x.knower(0), 2);
        c.due("knower(7)", x.knower(7), -9);
        c.due("knower(8)", x.knower(8), -1);
        c.due("knower(-1)", x.knower(-1), -1);
    }

    private static void two() {
        c.due("two, all the same", Check.told("p0000;p0000;").two(0, 1, 3), 0);
        c.due("two, he had better be silent", Check.told("p0000;p0000;ts00;").two(0, 1, 3), 10);
        c.due("two, the other", Check.told("p0000;p0000;ts00;").two(1, 0, 3), 1);
        c.due("two, both", Check.told("p0000;p0000;ts00;ts01;").two(0, 1, 3), 11);
        c.due("two, it is worth while", Check.told("p0001;p0000;tb00;").two(0, 1, 10), 0);
        ComesUpAsAQuestion x = Check.told("p0001;p0000;ts00;tr90;");
        c.due("two, 2 DAYS are less than 3", x.two(0, 1, 2), 10);
        c.due("two, 3 are not more", x.two(0, 1, 3), 0);
        c.due("two, 4 are more", x.two(0, 1, 4), 0);
        c.due("two, the other: 2 are less than 3", x.two(1, 0, 2), 1);
        c.due("two, the other: 3 are not more", x.two(1, 0, 3), 0);
        c.due("KNOWS stays", x.person(0, 0), 1);
        c.due("two(0, 0, 0)", x.two(0, 0, 0), -1);
        c.due("two(0, 2, 0)", x.two(0, 2, 0), -1);
        c.due("two(2, 0, 41)", x.two(2, 0, 41), -1);
        c.due("two(-1, 0, 1)", x.two(-1, 0, 1), -1);
        c.due("two(0, -1, 1)", x.two(0, -1, 1), -1);
        c.due("two(0, 1, 0)", x.two(0, 1, 0), -4);
        c.due("two(0, 1, 41)", x.two(0, 1, 41), -6);
    }

    public static void main(String[] args) {
        teach();
        bold();
        fewest();
        keepOut();
        drop();
        again();
        lookedUp();
        knower();
        two();
        c.end();
    }
}
