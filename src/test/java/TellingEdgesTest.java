/** Promises 1 to 3 at their edges: nothing there, the least and the greatest, one beyond, all places taken. */
public final class TellingEdgesTest {
    private static final Check c = new Check();
    private static final String[] FORMS = {"p####;", "t?##;", "a#;", "k##;", "o#;", "d##;"};

    private static void run(String text) {
        Script.run(c, text);
    }

    private static void nothingThere() {
        run("count(0)=0 count(1)=0 count(2)=0 count(3)=0 count(4)=0 count(5)=0 count(6)=0 count(7)=0"
            + " count(11)=0 count(12)=0 count(13)=0 count(14)=0 count(15)=0 count(16)=0 well()=-1000 on()=-3");
        run("person(0,0)=-1 thing(0,0)=-1 drops(0)=-1 learns(0,0)=-1 shy(0,0)=-1 turn(0,0,0)=-1 answers(0)=-1"
            + " thingThen(0,0,0)=-1 quiet(0)=-1 whatWas(0,0)=-1 two(0,1,1)=-1 lots(1,0,0)=-3");
        run("askThen(0,0)=0 askThen(0,1)=1 askThen(99,0)=0 askThen(99,1)=1 first(0)=-9 first(1)=0 first(2)=0 first(3)=-9"
            + " runs(1,0)=1 runs(99,0)=99 runs(99,1)=99 never()=0 busiest()=-9 teach(40)=-9 bold(40)=-9 fewest(0)=0"
            + " fewest(1)=-9 keepOut(40)=-9 drop(0,0,1,0)=-9 drop(0,0,1,1)=-9 again(40)=-9 hardest()=-9 topics()=0"
            + " alike(0)=0 alike(1)=-9 knower(0)=-9 truth()=0 cold(7,20,0)=1 cold(7,20,1)=1 mean(0)=0 mean(1)=1"
            + " judge()=-9 clear()=0 drought(0)=0 image()=0 on()=0 days(60)=1");
    }

    private static void letters() {
        run("letter(-1)=-4 letter(256)=-6 letter(MIN)=-4 letter(MAX)=-6 count(7)=0 letter(0)=1 letter(255)=2 letter(-1)=-4"
            + " letter(256)=-6 letter(112)=3 count(7)=3");
        run("94*letter(112) letter(112)=95 letter(256)=-6 letter(112)=96 letter(112)=-6 letter(0)=-6 letter(255)=-6"
            + " letter(256)=-6 letter(-1)=-4 count(7)=96 well()=-1001 count(7)=0 letter(112)=1");
        // What was refused is not among the letters.
        run("'p000' letter(256)=-6 letter(-1)=-4 '0;' count(7)=6 well()=1 count(0)=1");
        run("31*'o1;' 'o7' letter(59)=96 letter(59)=-6 letter(-1)=-4 well()=32 count(5)=7 count(7)=0");
    }

    private static boolean stands(char form, int letter) {
        switch (form) {
            case '#': return letter >= '0' && letter <= '9';
            case '?': return "srchpb".indexOf(letter) >= 0;
            case ';': return letter == ';';
            default: return "ptakod".indexOf(letter) >= 0;
        }
    }

    /** Each of the 256 letters at each place of each STATEMENT: it stands there, or it is the FAULT. */
    private static void eachLetterAtEachPlace() {
        // Behind nothing, behind a STATEMENT, behind one that is not as it must be: kind 1 comes first all the same.
        for (String before : new String[] {"", "o1;", "p0256;"}) {
            for (String form : FORMS) {
                for (int place = 0; place < form.length(); place++) {
                    String start = before + form.substring(0, place).replace('#', '0').replace('?', 's');
                    c.due("well of \"" + start + "\"", Check.tell(new ComesUpAsAQuestion(), start), endOf(start, place));
                    for (int letter = 0; letter < 256; letter++) {
                        boolean fits = stands(form.charAt(place), letter);
                        if (!fits || place < form.length() - 1) {
                            int got = Check.tell(new ComesUpAsAQuestion(), start + (char) letter);
                            int due = -1000 - start.length() - (fits ? 1 : 0);
                            c.due("well of \"" + start + "\" and " + letter, got, due);
                        }
                    }
                }
            }
        }
    }

    private static int endOf(String start, int place) {
        if (place > 0 || start.isEmpty()) {
            return -1000 - start.length();
        }
        return start.equals("o1;") ? 1 : -2000;
    }

    private static void lacks() {
        run("well()=-1000 'o' well()=-1001 'o1' well()=-1002 'o1;' well()=1 ';' well()=-1000 'o1;;' well()=-1003");
        // With a FAULT the letters are no more, neither.
        run("'p0' well()=-1002 count(7)=0 '000;' well()=-1000 count(0)=0 'p0000;' well()=1 count(0)=1");
        // 95 and 96 letters to which something lacks; with one nothing comes, DROUGHT neither.
        run("31*'o1;' 'd0' count(7)=95 well()=-1095 count(5)=0");
        run("31*'o1;' 'd01' count(7)=96 letter(59)=-6 well()=-1096 count(5)=0 count(2)=0");
        run("30*'o1;' 'p0001;' count(7)=96 well()=31 count(5)=1 person(0,0)=1");
    }

    private static void people() {
        run("6*'p0000;' well()=-2030 count(0)=0 5*'p0000;' well()=5 count(0)=5 'p0000;' well()=-2000 'o3;p0000;' well()=-2003"
            + " count(0)=5 count(5)=0 'o3;' well()=1");
        run("4*'p0000;' well()=4 'p0000;p0000;' well()=-2006 count(0)=4 'p9255;' well()=1 person(4,0)=255 person(4,1)=9");
        run("'p0254;p0255;p0256;' well()=-2012 count(0)=0 'p0256;' well()=-2000 'p0260;' well()=-2000 'p0300;' well()=-2000"
            + " 'p0999;' well()=-2000 'p0000;p9255;p0254;' well()=3 person(0,0)=0 person(0,1)=0 person(1,0)=255 person(1,1)=9"
            + " person(2,0)=254");
    }

    private static void things() {
        run("'ts00;' well()=-2000 'ts00;p0000;' well()=-2000 count(0)=0 'p0000;ts01;' well()=-2006 count(0)=0"
            + " 'p0000;ts01;p0000;' well()=-2006 'p0000;p0000;ts01;' well()=3 thing(0,2)=1 'ts02;' well()=-2000"
            + " 'p0000;ts02;' well()=2 thing(1,2)=2 count(1)=2");
        run("5*'p0000;' 'ts05;' well()=-2030 5*'p0000;' 'ts04;' well()=6 thing(0,2)=4 'ts05;' well()=-2000 'ts09;' well()=-2000"
            + " 'ts00;ts05;' well()=-2005 count(1)=1");
        run("'p0000;' 10*'ts00;' well()=-2051 count(1)=0 'p0000;' 9*'ts00;' well()=10 count(1)=9 'ts00;' well()=-2000"
            + " 'o1;ts00;' well()=-2003 count(1)=9 count(5)=0");
        run("'p0000;' 8*'ts00;' well()=9 'tb90;tb90;' well()=-2005 count(1)=8 'tb90;' well()=1 thing(8,0)=5 thing(8,1)=9"
            + " thing(8,2)=0 thing(8,3)=4 thing(8,4)=4 'ts00;' well()=-2000");
        // All places are taken and there is nobody: one FAULT, at the same place.
        run("'p0000;' 9*'ts00;' well()=10 'ts01;' well()=-2000");
    }

    private static void droppedAnew() {
        run("'a0;' well()=-2000 'p0000;a0;' well()=-2006 'p0000;a0;ts00;' well()=-2006 'p0000;ts00;a0;' well()=3 'a1;' well()=-2000"
            + " 'ts00;a1;' well()=2 'a2;' well()=-2000 'a9;' well()=-2000 count(1)=2");
        run("'p0000;' 9*'ts00;' well()=10 'd01;a8;' well()=2 thing(8,3)=1 thing(7,3)=0 'a9;' well()=-2000");
        // The HAT has RISEN and is quiet; dropped anew by a greater DROUGHT.
        run("'p0001;th70;d04;' well()=3 thing(0,3)=0 thing(0,4)=0 'o2;a0;' well()=2 thing(0,3)=5 thing(0,4)=2 thing(0,2)=0");
    }

    private static void knows() {
        run("'k00;' well()=-2000 'k00;p0000;' well()=-2000 'p0000;k10;' well()=-2006 'p0000;k00;k07;' well()=3 person(0,0)=129"
            + " 'k08;' well()=-2000 'k09;' well()=-2000 'k10;' well()=-2000 'k07;' well()=1 person(0,0)=1 'k00;k00;' well()=2"
            + " person(0,0)=1 'k00;k08;' well()=-2004 person(0,0)=1");
        run("4*'p0000;' 'p0255;' 'k47;' well()=6 person(4,0)=127 'k50;' well()=-2000 'k97;' well()=-2000 'k47;' well()=1"
            + " person(4,0)=255 person(3,0)=0");
    }

    private static void droughtAndDays() {
        run("'o0;' well()=1 count(5)=0 'o9;' well()=1 count(5)=9 'o8;o0;' well()=2 count(5)=0");
        run("'d00;' well()=-2000 'd61;' well()=-2000 'd99;' well()=-2000 count(2)=0 'd01;' well()=1 count(2)=1 'd60;' well()=1"
            + " count(2)=61 'd59;' well()=1 count(2)=120 'd01;d00;' well()=-2004 'd01;d61;' well()=-2004 count(2)=120");
        run("16*'d60;' well()=16 count(2)=960 'd40;' well()=-2000 'd60;' well()=-2000 count(2)=960 'd39;' well()=1 count(2)=999"
            + " 'd01;' well()=-2000 'o2;d01;' well()=-2003 count(5)=0 count(2)=999 'd00;' well()=-2000 'o2;' well()=1");
        run("16*'d60;' 'd40;' well()=-2064 count(2)=0 16*'d60;' 'd38;' well()=17 count(2)=998 'd02;' well()=-2000 'd01;' well()=1"
            + " count(2)=999");
        run("15*days(60) days(39) count(2)=939 'd01;d60;' well()=-2004 count(2)=939 'd60;' well()=1 count(2)=999");
    }

    private static void behindAllAhead() {
        // The first of several; what is ahead counts, what is behind does not.
        run("'o1;d00;d61;' well()=-2003 'p0256;ts09;' well()=-2000 'p0256;x' well()=-1006 'a9;d' well()=-1004 'd00;o' well()=-1005");
        run("'p0001;ts00;d01;' well()=3 thing(0,4)=0 'k00;a0;d01;' well()=3 thing(0,4)=1 thing(0,6)=1 'k00;d01;' well()=2 thing(0,4)=0");
        // A FAULT at the end of a long text takes back all that is ahead of it.
        run("'p1003;o1;ts00;' well()=3 'p0000;o9;ts11;a0;k00;d30;k29;' well()=-2025 count(0)=1 count(1)=1 count(2)=0 count(5)=1"
            + " person(0,0)=3 thing(0,3)=1 thing(0,4)=1");
    }

    private static String[] rises(int drought) {
        StringBuilder hat = new StringBuilder();
        for (int r : new int[] {1, 1, 1, 2, 2, 2, 3, 3, 3, 4}) {
            hat.append(r + drought).append(' ');
        }
        String ofHat = hat.toString();
        return new String[] {"1 1 1 2 2 2 3 3 3 4", "2 2 2 3 3 3 4 4 4 5", "1 1 1 2 2 2 3 3 3 4", ofHat, "4 4 4 6 6 6 8 8 8 10", ofHat};
    }

    /** Each KIND by each WEIGHT at the least and the greatest DROUGHT. */
    private static void kinds() {
        String[] topics = {"0123456701", "0123456701", "7654321076", "7654321076", "0123456701", "0000000000"};
        String[] times = {"1111111111", "1111111111", "2222222222", "2222222222", "1111222233", "4444444444"};
        for (int drought : new int[] {0, 1, 9}) {
            for (int kind = 0; kind < 6; kind++) {
                String[] rise = rises(drought)[kind].split(" ");
                for (int weight = 0; weight <= 9; weight++) {
                    char letter = "srchpb".charAt(kind);
                    run("'p0000;o" + drought + ";t" + letter + weight + "0;' well()=3 thing(0,0)=" + kind + " thing(0,1)=" + weight
                        + " thing(0,2)=0 thing(0,3)=" + rise[weight] + " thing(0,4)=" + times[kind].charAt(weight)
                        + " thing(0,5)=" + topics[kind].charAt(weight) + " drought(0) thing(0,3)=" + rise[weight]
                        + " drought(" + drought + ") drops(0)=" + rise[weight]);
                }
            }
        }
    }

    public static void main(String[] args) {
        nothingThere();
        letters();
        eachLetterAtEachPlace();
        lacks();
        people();
        things();
        droppedAnew();
        knows();
        droughtAndDays();
        behindAllAhead();
        kinds();
        c.end();
    }
}
