/** Promises 4 to 12 and 39 to 41: what there is, what is done to it, the image, count. */
public final class StateTest {
    private static final Check c = new Check();

    private static void kinds() {
        // Rows: the letter, WEIGHT, in how many DAYS it RISES at DROUGHT 2, its TOPIC, how often it must be answered.
        Object[][] rows = {
            {"s", 0, 1, 0, 1}, {"s", 2, 1, 2, 1}, {"s", 3, 2, 3, 1}, {"s", 7, 3, 7, 1}, {"s", 8, 3, 0, 1}, {"s", 9, 4, 1, 1},
            {"r", 0, 2, 0, 1}, {"r", 6, 4, 6, 1}, {"r", 9, 5, 1, 1},
            {"c", 0, 1, 7, 2}, {"c", 7, 3, 0, 2}, {"c", 9, 4, 6, 2},
            {"h", 0, 3, 7, 2}, {"h", 5, 4, 2, 2}, {"h", 8, 5, 7, 2},
            {"p", 0, 4, 0, 1}, {"p", 3, 6, 3, 1}, {"p", 4, 6, 4, 2}, {"p", 8, 8, 0, 3}, {"p", 9, 10, 1, 3},
            {"b", 0, 3, 0, 4}, {"b", 9, 6, 0, 4}};
        for (Object[] row : rows) {
            String name = "" + row[0] + row[1];
            int kind = "srchpb".indexOf((String) row[0]);
            ComesUpAsAQuestion x = Check.told("p0000;p0000;o2;t" + name + "1;");
            c.due(name + " KIND", x.thing(0, 0), kind);
            c.due(name + " WEIGHT", x.thing(0, 1), (Integer) row[1]);
            c.due(name + " who", x.thing(0, 2), 1);
            c.due(name + " RISES", x.thing(0, 3), (Integer) row[2]);
            c.due(name + " LEFT", x.thing(0, 4), (Integer) row[4]);
            c.due(name + " TOPIC", x.thing(0, 5), (Integer) row[3]);
            c.due(name + " ASKS", x.thing(0, 6), 0);
            x.days((Integer) row[2]);
            c.due(name + " ASKS when it has risen", x.thing(0, 6), 1);
            c.due(name + " drops", x.drops(0), (Integer) row[2]);
        }
    }

    private static void person() {
        ComesUpAsAQuestion x = Check.told("p3129;p0001;tb01;tp90;ts00;");
        c.due("person(0, 0)", x.person(0, 0), 129);
        c.due("person(0, 1)", x.person(0, 1), 3);
        c.due("person(0, 2)", x.person(0, 2), 0);
        c.due("person(0, 3)", x.person(0, 3), 4);
        c.due("person(1, 3)", x.person(1, 3), 4);
        x.days(2);
        c.due("person(1, 2) behind 2 DAYS", x.person(1, 2), 2);
        c.due("person(1, 3) behind 2 DAYS", x.person(1, 3), 2);
        c.due("person(0, 2) is shy", x.person(0, 2), 0);
        x.days(2);
        c.due("person(0, 2) on DAY 4", x.person(0, 2), 1);
        c.due("person(-1, 0)", x.person(-1, 0), -1);
        c.due("person(2, 9)", x.person(2, 9), -1);
        c.due("person(0, -1)", x.person(0, -1), -2);
        c.due("person(0, 4)", x.person(0, 4), -2);
        c.due("thing(-1, 9)", x.thing(-1, 9), -1);
        c.due("thing(3, 0)", x.thing(3, 0), -1);
        c.due("thing(0, 7)", x.thing(0, 7), -2);
        c.due("thing(0, -1)", x.thing(0, -1), -2);
    }

    private static void changes() {
        ComesUpAsAQuestion x = Check.told("p0000;th30;ts00;");
        c.due("drought(10)", x.drought(10), -6);
        c.due("drought(-1)", x.drought(-1), -4);
        c.due("drought(9)", x.drought(9), 0);
        c.due("drought(4)", x.drought(4), 9);
        c.due("a THING that has been DROPPED does not mind", x.thing(0, 3), 2);
        c.due("drops(0)", x.drops(0), 6);
        c.due("drops(2)", x.drops(2), -1);
        c.due("drops(-1)", x.drops(-1), -1);
        c.due("learns(0, 5)", x.learns(0, 5), 1);
        c.due("learns(0, 7)", x.learns(0, 7), 1);
        c.due("KNOWS", x.person(0, 0), 160);
        c.due("learns(0, 5) again", x.learns(0, 5), 0);
        c.due("KNOWS", x.person(0, 0), 128);
        c.due("learns(1, 0)", x.learns(1, 0), -1);
        c.due("learns(-1, 0)", x.learns(-1, 0), -1);
        c.due("learns(0, 8)", x.learns(0, 8), -1);
        c.due("learns(0, -1)", x.learns(0, -1), -1);
        c.due("shy(0, 9)", x.shy(0, 9), 0);
        c.due("shy(0, 2)", x.shy(0, 2), 9);
        c.due("shy(1, -1)", x.shy(1, -1), -1);
        c.due("shy(0, -1)", x.shy(0, -1), -4);
        c.due("shy(0, 10)", x.shy(0, 10), -6);
        c.due("SHY", x.person(0, 1), 2);
        c.due("turn(0, 5, 9)", x.turn(0, 5, 9), 33);
        c.due("turn(0, 4, 7)", x.turn(0, 4, 7), 59);
        c.due("KIND", x.thing(0, 0), 4);
        c.due("WEIGHT", x.thing(0, 1), 7);
        c.due("DAYS stay", x.thing(0, 3), 6);
        c.due("LEFT stays", x.thing(0, 4), 2);
        c.due("TOPIC is by the KIND", x.thing(0, 5), 7);
        c.due("turn(2, 9, 99)", x.turn(2, 9, 99), -1);
        c.due("turn(0, 6, -1)", x.turn(0, 6, -1), -2);
        c.due("turn(0, -1, 0)", x.turn(0, -1, 0), -2);
        c.due("turn(0, 0, -1)", x.turn(0, 0, -1), -4);
        c.due("turn(0, 0, 10)", x.turn(0, 0, 10), -6);
        c.due("KIND as before", x.thing(0, 0), 4);
    }

    private static void answers() {
        ComesUpAsAQuestion x = Check.told("p9001;p0000;tb00;ts01;");
        c.due("answers(0) does not ASK yet", x.answers(0), -3);
        x.days(1);
        c.due("answers(0)", x.answers(0), 3);
        c.due("answers(0)", x.answers(0), 2);
        c.due("ANSWERED", x.person(0, 2), 2);
        c.due("answers(1): he does not KNOW", x.answers(1), -3);
        c.due("answers(2)", x.answers(2), -1);
        c.due("answers(-1)", x.answers(-1), -1);
        x.answers(0);
        c.due("the last", x.answers(0), 0);
        c.due("quiet", x.answers(0), -3);
        c.due("what ASKS", x.count(3), 2);
    }

    /** 27 rounds of 9 BISHOPS are 972 answers; of one round more the 28th is not counted: 999 are the most. */
    private static void mostAnswered() {
        ComesUpAsAQuestion x = Check.told("p0255;tb00;tb00;tb00;tb00;tb00;tb00;tb00;tb00;tb00;d36;");
        for (int round = 2; round <= 27; round++) {
            for (int i = 0; i < 9; i++) {
                x.drops(i);
            }
            x.days(36);
        }
        c.due("DAY", x.count(2), 972);
        c.due("ANSWERED", x.person(0, 2), 972);
        for (int i = 0; i < 9; i++) {
            x.drops(i);
        }
        x.days(26);
        c.due("ANSWERED", x.person(0, 2), 998);
        c.due("answers(8)", x.answers(8), 3);
        c.due("ANSWERED", x.person(0, 2), 999);
        c.due("answers(8)", x.answers(8), 2);
        c.due("ANSWERED at most", x.person(0, 2), 999);
        x.days(1);
        c.due("ANSWERED at most, by days", x.person(0, 2), 999);
        c.due("LEFT goes on", x.count(4), 7);
    }

    private static void days() {
        ComesUpAsAQuestion x = Check.told("p0003;p1255;ts10;ts00;ts01;tc71;");
        c.due("days(0)", x.days(0), -4);
        c.due("days(61)", x.days(61), -6);
        // On DAY 1 the one who is shy waits and the other answers the least of his.
        c.due("days(1)", x.days(1), 0);
        c.due("LEFT of 0", x.thing(0, 4), 0);
        c.due("LEFT of 1", x.thing(1, 4), 1);
        c.due("LEFT of 2", x.thing(2, 4), 1);
        c.due("days(1)", x.days(1), 1);
        c.due("LEFT of 1", x.thing(1, 4), 0);
        c.due("LEFT of 2", x.thing(2, 4), 0);
        c.due("days(1): the CAT RISES", x.days(1), 0);
        c.due("days(3)", x.days(3), 1);
        c.due("LEFT of the CAT", x.thing(3, 4), 0);
        c.due("ANSWERED", x.person(1, 2), 3);
        for (int i = 0; i < 16; i++) {
            x.days(60);
        }
        c.due("DAY", x.count(2), 966);
        c.due("days(34)", x.days(34), -6);
        c.due("days(33)", x.days(33), 1);
        c.due("DAY", x.count(2), 999);
        c.due("days(1)", x.days(1), -6);
        c.due("DAY", x.count(2), 999);
    }

    private static void image() {
        ComesUpAsAQuestion x = Check.told("p2015;o3;th30;ts00;d01;");
        c.due("on() without", x.on(), -3);
        x.row(1);
        c.due("image()", x.image(), 1);
        String then = Check.seen(x);
        x.days(5);
        x.learns(0, 7);
        x.shy(0, 0);
        x.drought(0);
        x.turn(0, 5, 5);
        Check.tell(x, "p0000;tb01;");
        x.row(2);
        x.letter('p');
        c.due("on()", x.on(), 1);
        c.due("the ROW stays", x.count(6), 2);
        c.due("letters stay", x.count(7), 1);
        c.due("REFUSALS stay", x.count(13), 1);
        x.well();
        x.clear();
        x.row(1);
        c.due("all is as then", Check.seen(x).equals(then) ? 1 : 0, 1);
        x.days(3);
        c.due("on() again", x.on(), 1);
        c.due("all is as then", Check.seen(x).equals(then) ? 1 : 0, 1);
        x.days(2);
        c.due("image()", x.image(), 3);
        x.days(2);
        c.due("on()", x.on(), 3);
    }

    private static void count() {
        ComesUpAsAQuestion x = Check.told("p0000;p0000;o6;tb00;ts01;tc01;d01;");
        x.row(1);
        x.letter('p');
        x.letter('0');
        c.due("PEOPLE", x.count(0), 2);
        c.due("THINGS", x.count(1), 3);
        c.due("DAY", x.count(2), 1);
        c.due("what ASKS", x.count(3), 6);
        c.due("all LEFT", x.count(4), 7);
        c.due("DROUGHT", x.count(5), 6);
        c.due("in the ROW", x.count(6), 1);
        c.due("letters", x.count(7), 2);
        c.due("count(8)", x.count(8), -9);
        c.due("count(10)", x.count(10), -9);
        c.due("count(17)", x.count(17), -9);
        c.due("count(-1)", x.count(-1), -9);
        c.due("count(2147483647)", x.count(Integer.MAX_VALUE), -9);
        c.due("count(-2147483648)", x.count(Integer.MIN_VALUE), -9);
        x.quiet(9);
        x.first(9);
        x.mean(9);
        x.answers(0);
        x.days(0);
        x.cold(-1, 2, 0);
        x.teach(0);
        x.teach(41);
        c.due("-1", x.count(11), 1);
        c.due("-2", x.count(12), 2);
        c.due("-3", x.count(13), 1);
        c.due("-4", x.count(14), 3);
        c.due("-5", x.count(15), 0);
        c.due("-6", x.count(16), 1);
    }

    public static void main(String[] args) {
        kinds();
        person();
        changes();
        answers();
        mostAnswered();
        days();
        image();
        count();
        c.end();
    }
}
