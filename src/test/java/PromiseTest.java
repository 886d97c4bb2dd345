/** For each promise of the document its ordinary inputs, its edges and wrong inputs; what is due is worked out by hand. */
public final class PromiseTest {
    private static final int BAD = -1, NO = -2, FULL = -3, NONE = -4;
    private static int wrong = 0;
    private static String promise = "";

    /** Four of the STRIP, of each KIND one; damp in the second YEAR of two. */
    private static final String FOUR = "u5;u8;l5;l6;s0,5,2;s1,7,0;s2,4,98;s3,10,50;p3;p2;d0;d2;";

    public static void main(String[] args) {
        newObject();
        write();
        wipe();
        faultOfForm();
        faultOfNumbers();
        lay();
        land();
        strip();
        inchesAndDamp();
        against();
        push();
        chalk();
        pass();
        line();
        undo();
        askAndForget();
        meeting();
        meetingOfMany();
        meetingOfLongRows();
        shifts();
        most();
        hut();
        behind();
        worth();
        tells();
        slips();
        century();
        keepAndBack();
        count();
        farNumbers();
        landsAfterOthers();
        System.out.println(wrong == 0 ? "PromiseTest: all answers are as due" : wrong + " answers are not as due");
        if (wrong != 0) {
            System.exit(1);
        }
    }

    private static void due(String call, int got, int want) {
        if (got != want) {
            wrong++;
            System.out.println(promise + ": " + call + " answered " + got + ", due is " + want);
        }
    }

    private static void writeAll(SlideLand x, String text) {
        for (int i = 0; i < text.length(); i++) {
            x.write(text.charAt(i));
        }
    }

    private static SlideLand laid(String text) {
        SlideLand x = new SlideLand();
        writeAll(x, text);
        int lay = x.lay();
        if (lay < 1) {
            due("lay() of " + text, lay, 1);
        }
        return x;
    }

    private static void counts(SlideLand x, int... want) {
        for (int i = 0; i < want.length; i++) {
            due("count(" + i + ")", x.count(i), want[i]);
        }
    }

    private static void newObject() {
        promise = "1 a new object";
        SlideLand x = new SlideLand();
        counts(x, 5, 5, 5, 2, 0, 40, 40, 0, 0, 1, 0, 0, 0, 0);
        int[] upper = {3, 12, 20, 33, 47};
        int[] lower = {0, 9, 21, 40, 55};
        for (int k = 0; k < 5; k++) {
            due("land(0, " + k + ", 0)", x.land(0, k, 0), upper[k]);
            due("land(1, " + k + ", 0)", x.land(1, k, 0), lower[k]);
            due("land(0, " + k + ", 1)", x.land(0, k, 1), 0);
            due("land(1, " + k + ", 2)", x.land(1, k, 2), 0);
        }
        int[][] strips = {{0, 5, 10}, {1, 11, 4}, {2, 18, 7}, {3, 30, 12}, {0, 41, 3}};
        for (int s = 0; s < 5; s++) {
            for (int what = 0; what < 3; what++) {
                due("strip(" + s + ", " + what + ")", x.strip(s, what), strips[s][what]);
            }
        }
        due("inches(0)", x.inches(0), 1);
        due("inches(1)", x.inches(1), 7);
        int[] damps = {0, 0, 1, 2, 0};
        for (int n = 0; n < 5; n++) {
            due("damp(" + n + ")", x.damp(n), damps[n]);
        }
        due("fault()", x.fault(), NONE);
        due("undo()", x.undo(), NO);
        due("back()", x.back(), NO);
        due("lay() of the empty TEXT", x.lay(), NO);
        due("BAD", SlideLand.BAD, -1);
        due("NO", SlideLand.NO, -2);
        due("FULL", SlideLand.FULL, -3);
        due("NONE", SlideLand.NONE, -4);
    }

    private static void write() {
        promise = "2 write";
        SlideLand x = new SlideLand();
        due("write(31)", x.write(31), BAD);
        due("write(127)", x.write(127), BAD);
        due("write(-1)", x.write(-1), BAD);
        due("write(32)", x.write(32), 1);
        due("write(126)", x.write(126), 2);
        for (int n = 3; n <= 200; n++) {
            due("write(59)", x.write(59), n);
        }
        due("write(59), the 201st", x.write(59), FULL);
        due("write(31), the 201st", x.write(31), BAD);
        due("count(13)", x.count(13), 200);
    }

    private static void wipe() {
        promise = "3 wipe";
        SlideLand x = new SlideLand();
        due("wipe()", x.wipe(), 0);
        writeAll(x, "u61;");
        due("fault()", x.fault(), 0);
        due("wipe()", x.wipe(), 4);
        due("fault()", x.fault(), NONE);
        due("count(13)", x.count(13), 0);
        due("wipe()", x.wipe(), 0);
        due("count(0), which stays", x.count(0), 5);
        due("write(117)", x.write(117), 1);
    }

    private static void fault(String text, int want) {
        SlideLand x = new SlideLand();
        writeAll(x, text);
        due("fault() of " + text, x.fault(), want);
        due("fault() of " + text + ", again", x.fault(), want);
        counts(x, 5, 5, 5, 2);
    }

    private static void faultOfForm() {
        promise = "4 fault";
        fault("", NONE);
        fault("u3;", NONE);
        fault("u03;", NONE);
        fault("s00,05,01;", NONE);
        fault("u003;", 0);
        fault("u;", 0);
        fault("u", 0);
        fault("u3", 0);
        fault("u;;", 0);
        fault("u:;", 0);
        fault("u3:;", 0);
        fault("u/;", 0);
        fault("u3,4;", 0);
        fault("u3:", 0);
        fault("U3;", 0);
        fault("x3;", 0);
        fault("u-1;", 0);
        fault("u 1;", 0);
        fault(" u1;", 0);
        fault("3;", 0);
        fault(";", 0);
        fault("u3;;", 3);
        fault("u3; l4;", 3);
        fault("u3;l4", 3);
        fault("u3;l4;x", 6);
        fault("u3;l;u;", 3);
        fault("s0,5,10;", NONE);
        fault("s0,5;", 0);
        fault("s0,5,;", 0);
        fault("s0,,5;", 0);
        fault("s0;5;1;", 0);
        fault("s0,5,10,1;", 0);
        fault("p1;s0,5,1", 3);
        fault("p1,2;", 0);
    }

    private static void faultOfNumbers() {
        fault("u60;l60;", NONE);
        fault("u61;", 0);
        fault("u1;l61;", 3);
        fault("s3,60,99;", NONE);
        fault("s4,60,99;", 0);
        fault("s3,61,99;", 0);
        fault("s3,60,100;", 0);
        fault("p1;p20;", NONE);
        fault("p0;", 0);
        fault("p21;", 0);
        fault("d0;d3;", NONE);
        fault("d4;", 0);
        fault("u1;u1;u1;u1;u1;u1;", NONE);
        fault("u1;u1;u1;u1;u1;u1;u1;", 18);
        fault("l1;l1;l1;l1;l1;l1;u1;l1;", 21);
        fault("s0,1,1;s0,1,1;s0,1,1;s0,1,1;s0,1,1;s0,1,1;s0,1,1;", NONE);
        fault("s0,1,1;s0,1,1;s0,1,1;s0,1,1;s0,1,1;s0,1,1;s0,1,1;s0,1,1;", 49);
        fault("p1;p1;p1;p1;", NONE);
        fault("p1;p1;p1;p1;p1;", 12);
        fault("d1;d1;d1;d1;d1;d1;d1;d1;", NONE);
        fault("d1;d1;d1;d1;d1;d1;d1;d1;d1;", 24);
    }

    private static void lay() {
        promise = "5 lay";
        SlideLand x = laid("u5;l9;s0,5,7;p1;");
        due("push(0, 0)", x.push(0, 0), 41);
        x.chalk(4);
        x.pass(2);
        x.line(9);
        x.keep();
        x.ask(0, 0, 0);
        String[] none = {"u1;", "s0,1,1;", "p1;", "s0,1,1;p1;d4;"};
        for (String text : none) {
            x.wipe();
            writeAll(x, text);
            due("lay() of " + text, x.lay(), NO);
        }
        counts(x, 1, 1, 1, 1, 2, 41, 40, 4, 0, 0, 1, 3, 1, 13);
        x.wipe();
        writeAll(x, "s0,1,1;s0,2,3;p1;");
        due("lay()", x.lay(), 2);
        counts(x, 0, 0, 2, 1, 0, 40, 40, 0, 0, 0, 0, 0, 0, 17);
        due("undo()", x.undo(), NO);
        due("back()", x.back(), NO);
        due("damp(0), none told", x.damp(0), 0);
        due("land(0, 0, 0)", x.land(0, 0, 0), BAD);
        x = laid("u5;l5;s0,5,7;p1;");
        x.pass(1);
        x.line(5);
        due("land(0, 0, 1)", x.land(0, 0, 1), 1);
        due("lay(), again", x.lay(), 1);
        due("land(0, 0, 1)", x.land(0, 0, 1), 0);
        due("land(0, 0, 2)", x.land(0, 0, 2), 0);
        due("strip(0, 2)", x.strip(0, 2), 7);
        due("strip(0, 4)", x.strip(0, 4), 0);
    }

    private static void land() {
        promise = "6 land";
        SlideLand x = laid("u5;u5;l5;s0,5,2;p1;");
        due("pass(1)", x.pass(1), 1);
        due("land(0, 0, 0)", x.land(0, 0, 0), 5);
        due("land(0, 0, 1)", x.land(0, 0, 1), 1);
        due("land(0, 1, 1)", x.land(0, 1, 1), 1);
        due("land(1, 0, 1), no goods being left", x.land(1, 0, 1), 0);
        due("line(5)", x.line(5), 2);
        due("land(0, 0, 2)", x.land(0, 0, 2), 1);
        due("land(0, 1, 2)", x.land(0, 1, 2), 0);
        due("land(1, 0, 2)", x.land(1, 0, 2), 0);
        int[][] bad = {{-1, 0, 0}, {2, 0, 0}, {0, -1, 0}, {0, 2, 0}, {1, 1, 0}, {0, 0, -1}, {0, 0, 3}};
        for (int[] b : bad) {
            due("land of a bad number", x.land(b[0], b[1], b[2]), BAD);
        }
    }

    private static void strip() {
        promise = "7 strip";
        SlideLand x = laid("u5;s3,60,99;s2,19,0;p20;d3;d0;");
        due("strip(0, 0)", x.strip(0, 0), 3);
        due("strip(0, 1)", x.strip(0, 1), 60);
        due("strip(0, 2)", x.strip(0, 2), 99);
        due("strip(0, 3), damp", x.strip(0, 3), 178);
        due("strip(1, 3), cut", x.strip(1, 3), 124);
        due("strip(0, 4)", x.strip(0, 4), 0);
        x.push(0, 0);
        due("strip(0, 3), slow", x.strip(0, 3), 178);
        due("strip(1, 3)", x.strip(1, 3), 144);
        x.push(0, 0);
        due("strip(0, 3)", x.strip(0, 3), 198);
        x.push(0, 0);
        due("strip(0, 3)", x.strip(0, 3), 218);
        x.pass(1);
        due("strip(0, 3), the next YEAR", x.strip(0, 3), 200);
        due("strip(1, 3), the next YEAR", x.strip(1, 3), 159);
        due("strip(-1, 0)", x.strip(-1, 0), BAD);
        due("strip(2, 0)", x.strip(2, 0), BAD);
        due("strip(0, -1)", x.strip(0, -1), BAD);
        due("strip(0, 5)", x.strip(0, 5), BAD);
        x = laid("u5;s0,5,0;p1;");
        x.line(5);
        due("strip(0, 4)", x.strip(0, 4), 1);
    }

    private static void inchesAndDamp() {
        promise = "8 inches";
        SlideLand x = laid("s0,5,0;p20;p1;p7;p20;d3;d1;d2;");
        int[] inches = {20, 1, 7, 20};
        for (int p = 0; p < 4; p++) {
            due("inches(" + p + ")", x.inches(p), inches[p]);
        }
        due("inches(4)", x.inches(4), BAD);
        due("inches(-1)", x.inches(-1), BAD);
        promise = "9 damp";
        int[] damps = {3, 1, 2, 3, 1};
        for (int n = 0; n < 5; n++) {
            due("damp(" + n + ")", x.damp(n), damps[n]);
        }
        due("damp(99)", x.damp(99), 3);
        x.pass(2);
        due("damp(0) in YEAR 2", x.damp(0), 2);
        due("damp(1) in YEAR 2", x.damp(1), 3);
        due("damp(100)", x.damp(100), BAD);
        due("damp(-1)", x.damp(-1), BAD);
        due("damp(5), one told", laid("s0,5,0;p1;d2;").damp(5), 2);
        due("damp(5), none told", laid("s0,5,0;p1;").damp(5), 0);
    }

    private static void against() {
        promise = "10 against";
        SlideLand x = laid(FOUR);
        int[] first = {1 | 64, 2 | 128, 0, 0};
        for (int s = 0; s < 4; s++) {
            due("against(" + s + ")", x.against(s), first[s]);
        }
        due("against(4)", x.against(4), BAD);
        due("against(-1)", x.against(-1), BAD);
        x.push(0, 0);
        int[] moved = {2, 0, 1 | 64, 0};
        for (int s = 0; s < 4; s++) {
            due("against(" + s + "), moved", x.against(s), moved[s]);
        }
        String[] kinds = {"s0", "s1", "s2", "s3"};
        int[] bits = {8, 4 | 8 | 16, 2 | 8, 8};
        for (int s = 0; s < 4; s++) {
            x = laid("u29;u28;u29;u30;u31;u32;l29;l28;l29;l30;l31;l32;" + kinds[s] + ",30,0;p1;");
            due("against(0) of " + kinds[s], x.against(0), bits[s] | bits[s] << 6 | (s == 1 ? 1 | 64 : 0));
        }
    }

    private static void push() {
        promise = "11 push";
        SlideLand x = laid("s0,5,0;p20;p3;");
        due("push(1, 0)", x.push(1, 0), 43);
        due("push(1, 1)", x.push(1, 1), 40);
        due("count(6)", x.count(6), 43);
        due("push(0, 1)", x.push(0, 1), 20);
        due("push(0, 1)", x.push(0, 1), 0);
        due("push(1, 1), at the end", x.push(1, 1), 0);
        due("count(6)", x.count(6), 40 - 40);
        x.chalk(2);
        due("push(1, 0) with CHALK 2", x.push(1, 0), 1);
        due("count(7)", x.count(7), 1);
        due("push(1, 0) with CHALK 1", x.push(1, 0), 3);
        due("push(1, 0) with CHALK 0", x.push(1, 0), 6);
        due("count(7)", x.count(7), 0);
        x.chalk(9);
        due("push(1, 0) with CHALK 9", x.push(1, 0), 6);
        due("count(6)", x.count(6), 6);
        due("count(7)", x.count(7), 8);
        int were = x.count(11);
        int[][] bad = {{-1, 0}, {2, 0}, {0, -1}, {0, 2}};
        for (int[] b : bad) {
            due("push of a bad number", x.push(b[0], b[1]), BAD);
        }
        due("count(11)", x.count(11), were);
        x = laid("s0,5,0;p20;");
        x.push(0, 0);
        x.push(0, 0);
        due("push(0, 0), at the end", x.push(0, 0), 80);
        due("count(6)", x.count(6), 80);
    }

    private static void chalk() {
        promise = "12 chalk";
        SlideLand x = laid("s0,5,0;p20;");
        due("chalk(9)", x.chalk(9), 0);
        due("chalk(0)", x.chalk(0), 9);
        due("chalk(0)", x.chalk(0), 0);
        due("count(11)", x.count(11), 3);
        due("chalk(-1)", x.chalk(-1), BAD);
        due("chalk(10)", x.chalk(10), BAD);
        due("count(11)", x.count(11), 3);
    }

    private static void pass() {
        promise = "13 pass";
        SlideLand x = laid(FOUR);
        due("pass(0)", x.pass(0), BAD);
        due("pass(21)", x.pass(21), BAD);
        due("pass(1)", x.pass(1), 1);
        int[] goods = {3, 3, 98, 50};
        for (int s = 0; s < 4; s++) {
            due("strip(" + s + ", 2)", x.strip(s, 2), goods[s]);
        }
        due("land(0, 0, 1)", x.land(0, 0, 1), 1);
        due("land(1, 0, 1)", x.land(1, 0, 1), 1);
        due("land(0, 1, 1), of whom had no goods", x.land(0, 1, 1), 0);
        due("strip(2, 3), damp", x.strip(0, 3), 106);
        x = laid("u5;l5;s0,5,99;p1;");
        x.pass(1);
        due("strip(0, 2), 99 at most", x.strip(0, 2), 99);
        x = laid("u5;l5;s0,5,98;p1;");
        x.pass(20);
        due("strip(0, 2), 99 at most", x.strip(0, 2), 99);
        due("land(1, 0, 1)", x.land(1, 0, 1), 20);
        x = laid("l5;l5;l5;s0,5,4;p1;");
        x.pass(2);
        due("land(1, 0, 1)", x.land(1, 0, 1), 2);
        due("land(1, 1, 1)", x.land(1, 1, 1), 1);
        due("strip(0, 2), of one land alone", x.strip(0, 2), 0);
        for (int i = 0; i < 48; i++) {
            x.pass(20);
        }
        due("count(4)", x.count(4), 962);
        x.pass(20);
        due("pass(18), beyond", x.pass(18), NO);
        due("pass(21), beyond", x.pass(21), BAD);
        due("count(4)", x.count(4), 982);
        due("pass(17)", x.pass(17), 999);
        due("pass(1), beyond", x.pass(1), NO);
    }

    private static void line() {
        promise = "14 line";
        SlideLand x = laid("u5;u5;l5;l5;s0,5,0;s0,5,0;s0,5,0;s0,7,0;p1;");
        due("line(-100)", x.line(-100), BAD);
        due("line(100)", x.line(100), BAD);
        due("line(99)", x.line(99), NO);
        due("line(-99)", x.line(-99), NO);
        due("line(7), one alone", x.line(7), NO);
        due("count(11)", x.count(11), 0);
        due("line(5)", x.line(5), 2);
        due("land(0, 0, 2)", x.land(0, 0, 2), 1);
        due("strip(0, 4)", x.strip(0, 4), 1);
        due("land(1, 0, 2)", x.land(1, 0, 2), 0);
        due("line(5)", x.line(5), 4);
        due("land(0, 1, 2)", x.land(0, 1, 2), 1);
        due("strip(1, 4)", x.strip(1, 4), 1);
        due("line(5)", x.line(5), 6);
        due("land(1, 0, 2)", x.land(1, 0, 2), 1);
        due("strip(2, 4)", x.strip(2, 4), 1);
        due("line(5), of one land alone", x.line(5), NO);
        x = laid("u1;u1;u1;u1;u1;u1;l7;s0,5,0;p1;");
        due("line(7), one alone behind a full land", x.line(7), NO);
        x = laid("l0;s0,5,0;p1;");
        due("line(0), where none is told", x.line(0), NO);
        x = laid("u5;l5;s0,6,0;p1;");
        due("line(5), of UPPER and LOWER", x.line(5), 2);
        due("land(0, 0, 2)", x.land(0, 0, 2), 1);
        due("land(1, 0, 2)", x.land(1, 0, 2), 1);
        due("strip(0, 4)", x.strip(0, 4), 0);
        x = laid("u3;s0,4,0;s3,3,0;p1;");
        x.push(0, 1);
        due("line(3), by PLACE", x.line(3), 2);
        due("strip(0, 4)", x.strip(0, 4), 1);
        due("strip(1, 4)", x.strip(1, 4), 0);
        x = laid("u3;s1,4,0;p1;");
        due("line(3), none being AGAINST at a distance", x.line(3), NO);
    }

    private static void undo() {
        promise = "15 undo";
        SlideLand x = laid("u5;l5;s0,5,7;p3;");
        due("undo()", x.undo(), NO);
        x.push(0, 0);
        x.push(0, 1);
        x.chalk(4);
        x.push(0, 0);
        x.undo();
        due("count(7)", x.count(7), 4);
        due("count(6)", x.count(6), 43);
        x.pass(5);
        x.line(5);
        due("count(11)", x.count(11), 5);
        x.ask(0, 0, 0);
        due("undo() of a LINE", x.undo(), 4);
        due("count(8)", x.count(8), 0);
        due("count(10), which stays", x.count(10), 1);
        due("strip(0, 2)", x.strip(0, 2), 12);
        due("undo() of 5 YEARS", x.undo(), 3);
        due("count(4)", x.count(4), 0);
        due("strip(0, 2)", x.strip(0, 2), 7);
        due("land(0, 0, 1)", x.land(0, 0, 1), 0);
        due("undo() of CHALK", x.undo(), 2);
        due("count(7)", x.count(7), 0);
        due("undo() of a PUSH", x.undo(), 1);
        counts(x, 1, 1, 1, 1, 0, 43, 40);
        due("undo() of a PUSH", x.undo(), 0);
        due("undo()", x.undo(), NO);
        for (int i = 1; i <= 12; i++) {
            due("chalk(" + i % 10 + ")", x.chalk(i % 10), (i - 1) % 10);
        }
        for (int i = 11; i >= 4; i--) {
            due("undo()", x.undo(), i - 4);
            due("count(7)", x.count(7), i % 10);
        }
        due("undo(), behind 8", x.undo(), NO);
        due("chalk(0)", x.chalk(0), 4);
        x = laid("u5;l5;s0,5,7;p3;");
        for (int i = 0; i < 9; i++) {
            x.push(0, i < 5 ? 0 : 1);
        }
        due("count(11), 8 at most", x.count(11), 8);
        for (int left = 7; left >= 0; left--) {
            due("undo()", x.undo(), left);
        }
        due("undo(), behind 8", x.undo(), NO);
        due("count(5), by the first PUSH", x.count(5), 43);
    }

    private static void askAndForget() {
        promise = "16 ask";
        SlideLand x = laid("u5;l5;l6;s0,5,7;p3;");
        due("ask(1, 0, 0)", x.ask(1, 0, 0), BAD);
        due("ask(-1, 0, 0)", x.ask(-1, 0, 0), BAD);
        due("ask(0, 2, 0)", x.ask(0, 2, 0), BAD);
        due("ask(0, -1, 0)", x.ask(0, -1, 0), BAD);
        due("ask(0, 0, 1)", x.ask(0, 0, 1), BAD);
        due("ask(0, 1, 2)", x.ask(0, 1, 2), BAD);
        due("ask(0, 1, -1)", x.ask(0, 1, -1), BAD);
        for (int n = 1; n <= 6; n++) {
            due("ask(0, 1, " + n % 2 + ")", x.ask(0, 1, n % 2), n);
        }
        due("ask(0, 0, 0), the 7th", x.ask(0, 0, 0), FULL);
        due("ask(1, 0, 0), the 7th", x.ask(1, 0, 0), BAD);
        due("count(10)", x.count(10), 6);
        promise = "17 forget";
        due("forget()", x.forget(), 6);
        due("forget()", x.forget(), 0);
        due("count(10)", x.count(10), 0);
        due("shifts(0)", x.shifts(0), 81);
        due("ask(0, 0, 0)", x.ask(0, 0, 0), 1);
    }

    private static void meeting() {
        promise = "18 meeting";
        SlideLand x = laid("u14;u15;u4;s0,5,0;p1;");
        due("meeting(-2)", x.meeting(-2), BAD);
        due("meeting(-1), nothing ASKED", x.meeting(-1), 0);
        due("meeting(0), nothing ASKED", x.meeting(0), NONE);
        x.ask(0, 0, 0);
        due("meeting(-1), 9 at most", x.meeting(-1), 9);
        for (int k = 0; k < 9; k++) {
            due("meeting(" + k + ")", x.meeting(k), 0);
        }
        due("meeting(9)", x.meeting(9), NONE);
        due("meeting(2147483647)", x.meeting(Integer.MAX_VALUE), NONE);
        due("meeting(-2147483648)", x.meeting(Integer.MIN_VALUE), BAD);
        x.forget();
        x.ask(0, 0, 1);
        due("meeting(-1), 10 being needed", x.meeting(-1), NONE);
        due("meeting(0), 10 being needed", x.meeting(0), NONE);
        due("meeting(-2)", x.meeting(-2), BAD);
        x.forget();
        x.ask(0, 0, 2);
        due("meeting(0), to the left", x.meeting(0), 1);
        x.chalk(9);
        due("meeting(-1), whatever CHALK", x.meeting(-1), 1);
        due("count(5), nothing changes", x.count(5), 40);
        due("count(7), nothing changes", x.count(7), 9);
        x.chalk(0);
        x.push(0, 1);
        due("meeting(-1), being so", x.meeting(-1), 0);
    }

    private static void meetingOfMany() {
        // 2 = 5 - 3 = -3 + 5, and there is none shorter: by the lower PUSH first.
        SlideLand x = laid("u12;s0,10,0;p5;p3;");
        x.ask(0, 0, 0);
        due("meeting(-1)", x.meeting(-1), 2);
        due("meeting(0)", x.meeting(0), 0);
        due("meeting(1)", x.meeting(1), 11);
        // -2 = 3 - 5 = -5 + 3.
        x = laid("u8;s0,10,0;p5;p3;");
        x.ask(0, 0, 0);
        due("meeting(0)", x.meeting(0), 1);
        due("meeting(1)", x.meeting(1), 10);
        // The SLOW one is where the SHIFT was ahead: 1 behind the first, 0 behind the second.
        x = laid("u10;l10;s0,10,0;s3,9,0;p1;p2;");
        x.ask(0, 0, 0);
        x.ask(1, 1, 0);
        due("meeting(-1), with a SLOW one", x.meeting(-1), 2);
        due("meeting(0), with a SLOW one", x.meeting(0), 0);
        due("meeting(1), with a SLOW one", x.meeting(1), 1);
        // Both at 40: the end of the groove holds the SHIFT while it is pushed on.
        x = laid("u50;l50;s0,10,0;s3,10,0;p20;");
        x.ask(0, 0, 0);
        x.ask(1, 1, 0);
        due("meeting(-1), at the end", x.meeting(-1), 3);
        // In the YEAR as it is: the inch 10 is at 12.
        x = laid("u12;s0,10,0;p5;p3;d0;d2;");
        x.ask(0, 0, 0);
        x.pass(1);
        due("meeting(-1), in a damp YEAR", x.meeting(-1), 0);
        // What the SLOW one is over against hangs on how it stands now.
        x = laid("u10;s3,10,0;p3;");
        x.ask(0, 0, 0);
        x.push(0, 0);
        due("meeting(-1), the SLOW one being still there", x.meeting(-1), 0);
        x.push(0, 0);
        due("meeting(-1), the SLOW one being gone", x.meeting(-1), 3);
        due("meeting(0)", x.meeting(0), 1);
        due("meeting(1)", x.meeting(1), 1);
        due("meeting(2)", x.meeting(2), 0);
    }

    private static void meetingOfLongRows() {
        // 12 = 9 + 5 - 2 = 5 + 5 + 2.
        SlideLand x = laid("u22;u10;u15;s0,10,0;s3,10,0;p9;p5;p2;");
        x.ask(0, 0, 0);
        int[] row = {0, 10, 21};
        due("meeting(-1), of three", x.meeting(-1), 3);
        for (int k = 0; k < 3; k++) {
            due("meeting(" + k + "), of three", x.meeting(k), row[k]);
        }
        x.push(1, 1);
        // 17 = 9 + 5 + 5 - 2 = 5 + 5 + 5 + 2, and there is none shorter.
        due("meeting(-1), from elsewhere", x.meeting(-1), 4);
        int[] longer = {0, 10, 10, 21};
        for (int k = 0; k < 4; k++) {
            due("meeting(" + k + "), from elsewhere", x.meeting(k), longer[k]);
        }
        due("meeting(4), from elsewhere", x.meeting(4), NONE);
        // Pushed by 20 alone the STRIP is nowhere between.
        x = laid("u10;s0,5,0;p20;");
        x.ask(0, 0, 0);
        due("meeting(-1), never", x.meeting(-1), NONE);
        x.push(0, 1);
        due("meeting(-1), never from elsewhere", x.meeting(-1), NONE);
        // The SLOW one is never with the others, but at the ends.
        x = laid("u10;s0,9,0;s3,9,0;p1;");
        x.ask(0, 0, 0);
        x.ask(1, 0, 0);
        x.push(0, 0);
        due("meeting(-1), of a SLOW one and another", x.meeting(-1), NONE);
        x = laid("u10;l10;s0,50,0;s3,50,0;p20;");
        x.ask(0, 0, 0);
        x.ask(1, 1, 0);
        due("meeting(-1), at the left end", x.meeting(-1), 3);
        due("meeting(2), at the left end", x.meeting(2), 1);
        // Only at the left end do pushes by 7 come off their own beat: -40, then -33.
        x = laid("u7;s0,40,0;p7;");
        x.ask(0, 0, 0);
        due("meeting(-1), by the left end", x.meeting(-1), 7);
        due("meeting(5), by the left end", x.meeting(5), 1);
        due("meeting(6), by the left end", x.meeting(6), 0);
    }

    private static void shifts() {
        promise = "19 shifts";
        SlideLand x = laid("u5;u60;s1,7,0;s3,8,0;s0,10,0;p1;");
        due("shifts(0), nothing ASKED", x.shifts(0), 81);
        due("shifts(1), nothing ASKED", x.shifts(1), 0);
        x.ask(0, 0, 0);
        due("shifts(0)", x.shifts(0), 3);
        due("shifts(1)", x.shifts(1), 37);
        x.push(0, 0);
        x.ask(1, 0, 0);
        due("shifts(0), a SLOW one, too", x.shifts(0), 1);
        due("shifts(1), a SLOW one, too", x.shifts(1), 37);
        x.ask(2, 0, 0);
        due("shifts(0), never so", x.shifts(0), 0);
        due("shifts(1), never so", x.shifts(1), NONE);
        due("shifts(2)", x.shifts(2), BAD);
        due("shifts(-1)", x.shifts(-1), BAD);
        x = laid("u0;s0,40,0;s0,41,0;p1;d0;d1;");
        x.ask(0, 0, 0);
        due("shifts(1), at -40", x.shifts(1), 0);
        due("shifts(0), at -40", x.shifts(0), 1);
        x.pass(1);
        due("shifts(0), beyond in a damp YEAR", x.shifts(0), 0);
        x.forget();
        x.ask(1, 0, 0);
        due("shifts(0), beyond", x.shifts(0), 0);
        x = laid("u60;s0,20,0;p1;");
        x.ask(0, 0, 0);
        due("shifts(1), at 40", x.shifts(1), 80);
    }

    private static void most() {
        promise = "20 most";
        SlideLand x = laid("u5;u6;l5;s1,8,0;s3,8,0;p1;");
        x.push(0, 0);
        due("most(0)", x.most(0), 5);
        due("most(1)", x.most(1), 37);
        due("most(2)", x.most(2), BAD);
        due("most(-1)", x.most(-1), BAD);
        x = laid("u5;u50;s0,10,0;p1;d0;d1;");
        due("most(0), of several", x.most(0), 1);
        due("most(1), of several the lowest", x.most(1), 35);
        x.pass(1);
        due("most(1), in a damp YEAR", x.most(1), 34);
        x = laid("u0;s0,40,0;p1;");
        due("most(0), at -40", x.most(0), 1);
        due("most(0), at -40 again", x.most(0), 1);
        due("most(1), at -40", x.most(1), 0);
        due("most(1), at -39", laid("u1;s0,40,0;p1;").most(1), 1);
        due("most(1), at 40", laid("u60;s0,20,0;p1;").most(1), 80);
        due("most(0), beyond", laid("u60;s0,19,0;p1;").most(0), 0);
        x = laid("u5;u7;l7;s2,10,0;p1;");
        due("most(0), of a LEANING one", x.most(0), 3);
        due("most(1), of a LEANING one", x.most(1), 37);
        x = laid("u5;u7;s2,10,0;p1;");
        due("most(0), of a LEANING one by both", x.most(0), 2);
        due("most(1), of a LEANING one by both", x.most(1), 37);
        x = laid("s0,10,0;p1;");
        due("most(0), of nobody", x.most(0), 0);
        due("most(1), of nobody", x.most(1), 0);
    }

    private static void hut() {
        promise = "21 hut";
        SlideLand x = laid("u0;u60;l30;s0,5,0;p1;d0;d3;");
        due("hut(0)", x.hut(0), 3);
        due("hut(1)", x.hut(1), 20);
        due("hut(2)", x.hut(2), BAD);
        due("hut(-1)", x.hut(-1), BAD);
        x.pass(1);
        due("hut(0), in a damp YEAR", x.hut(0), 3);
        due("hut(1), in a damp YEAR", x.hut(1), 16);
        x = laid("u0;s0,5,0;s0,5,0;s0,5,0;s0,5,0;s0,5,0;s0,5,0;s0,5,0;p1;");
        due("hut(0), the STRIP being full", x.hut(0), 1);
        due("hut(1)", x.hut(1), 0);
        x = laid("s0,5,0;p1;");
        due("hut(0), of nobody", x.hut(0), 0);
        due("hut(1), of nobody", x.hut(1), 0);
        x = laid("u60;l60;l60;u0;s0,5,0;p1;");
        due("hut(0)", x.hut(0), 4);
        due("hut(1)", x.hut(1), 20);
    }

    private static void behind() {
        promise = "22 behind";
        SlideLand x = laid("u5;s0,5,3;s0,9,8;p1;");
        int[] goods = {3, 2, 1, 0, 0};
        for (int n = 0; n < 5; n++) {
            due("behind(" + n + ", 0)", x.behind(n, 0), goods[n]);
        }
        due("behind(40, 0)", x.behind(40, 0), 0);
        due("behind(40, 1)", x.behind(40, 1), 8);
        due("behind(41, 0)", x.behind(41, 0), BAD);
        due("behind(-1, 0)", x.behind(-1, 0), BAD);
        due("behind(0, 2)", x.behind(0, 2), BAD);
        due("behind(0, -1)", x.behind(0, -1), BAD);
        due("count(4), nothing changes", x.count(4), 0);
        due("land(0, 0, 1), nothing changes", x.land(0, 0, 1), 0);
        // At 11 in the YEARS with 1, of which YEAR 999 is one and YEAR 1000 is none.
        x = laid("u11;s0,10,99;p1;p1;d0;d1;");
        for (int i = 0; i < 49; i++) {
            x.pass(20);
        }
        due("pass(19)", x.pass(19), 999);
        due("strip(0, 2)", x.strip(0, 2), 0);
        x = laid("u11;l11;s0,10,9;p1;p1;d0;d0;d0;d1;");
        for (int i = 0; i < 49; i++) {
            x.pass(20);
        }
        x.pass(18);
        due("strip(0, 2)", x.strip(0, 2), 99);
        due("land(0, 0, 1)", x.land(0, 0, 1), 249);
        x = laid("u10;s0,10,99;p1;");
        x.push(0, 0);
        for (int i = 0; i < 49; i++) {
            x.pass(20);
        }
        x.pass(19);
        x.push(0, 1);
        due("behind(40, 0), beyond YEAR 999", x.behind(40, 0), 59);
        due("worth(20, 1), beyond YEAR 999", x.worth(20, 1), 99);
        due("worth(20, 0), beyond YEAR 999", x.worth(20, 0), 0);
    }

    private static void worth() {
        promise = "23 worth";
        SlideLand x = laid("u10;l10;s0,7,5;p1;p3;");
        due("worth(1, 0)", x.worth(1, 0), 10);
        due("worth(1, 1)", x.worth(1, 1), 6);
        due("worth(20, 0)", x.worth(20, 0), 10);
        due("worth(20, 1)", x.worth(20, 1), 25);
        x.chalk(2);
        due("worth(1, 0), as CHALK is", x.worth(1, 0), 99);
        due("worth(1, 1), as CHALK is", x.worth(1, 1), 5);
        due("count(5), nothing changes", x.count(5), 40);
        due("count(7), nothing changes", x.count(7), 2);
        int[][] bad = {{0, 0}, {21, 0}, {1, -1}, {1, 2}};
        for (int[] b : bad) {
            due("worth of a bad number", x.worth(b[0], b[1]), BAD);
        }
        x = laid("u10;l10;u4;l4;s0,7,5;p3;p3;");
        due("worth(1, 0), of several the first", x.worth(1, 0), 0);
        x = laid("u4;l4;s0,7,5;p2;p3;p3;");
        due("worth(1, 0), to the left", x.worth(1, 0), 11);
        x = laid("u10;l10;u4;l4;u7;l7;s0,7,5;p3;");
        due("worth(1, 0), none ahead of all", x.worth(1, 0), 99);
        due("worth(1, 1), none ahead of all", x.worth(1, 1), 6);
        x = laid("u7;s0,7,5;s0,9,4;p5;");
        due("worth(5, 0), to lose nothing", x.worth(5, 0), 0);
        due("worth(5, 1), to lose nothing", x.worth(5, 1), 9);
        // By a PUSH one comes and the other goes: there is none by which both are there.
        x = laid("u10;l10;s0,9,5;s3,9,5;p1;");
        x.push(0, 0);
        due("worth(1, 0), of one for another", x.worth(1, 0), 99);
        due("worth(1, 1), of one for another", x.worth(1, 1), 11);
        // The SLOW one stays for now: only to be gone at a PUSH later.
        x = laid("u7;s3,7,5;p5;");
        due("worth(5, 0), of a SLOW one", x.worth(5, 0), 99);
        due("worth(5, 1), of a SLOW one", x.worth(5, 1), 0);
    }

    private static void tells() {
        promise = "24 tells";
        SlideLand x = laid("u5;l5;l6;s0,5,0;p1;");
        due("tells(0), of several the first", x.tells(0), 0);
        due("tells(1)", x.tells(1), 80);
        due("tells(2)", x.tells(2), BAD);
        due("tells(-1)", x.tells(-1), BAD);
        x.ask(0, 0, 0);
        due("tells(0), none being ASKED again", x.tells(0), 10);
        due("tells(1)", x.tells(1), 1);
        x.ask(0, 1, 0);
        due("tells(0)", x.tells(0), 11);
        x.ask(0, 1, 1);
        due("tells(0), no such SHIFT", x.tells(0), NONE);
        due("tells(1), no such SHIFT", x.tells(1), NONE);
        due("tells(2), no such SHIFT", x.tells(2), BAD);
        x = laid("u5;s0,5,0;p1;");
        x.ask(0, 0, 0);
        due("tells(0), no such pair", x.tells(0), NONE);
        due("tells(1), no such pair", x.tells(1), NONE);
        due("tells(0), of nobody", laid("s0,5,0;p1;").tells(0), NONE);
        // Of the RICH one's three SHIFTS the PLAIN one is against l0 at one, the LEANING one at two.
        x = laid("u5;l6;s1,5,0;s0,6,0;s2,7,0;p1;");
        due("tells(0)", x.tells(0), 0);
        due("tells(1)", x.tells(1), 78);
        x.ask(0, 0, 0);
        due("tells(0)", x.tells(0), 10);
        due("tells(1)", x.tells(1), 2);
        x = laid("u5;s0,30,0;s2,31,0;p1;");
        due("tells(0), of a LEANING one", x.tells(0), 100);
        due("tells(1), of a LEANING one", x.tells(1), 79);
        x = laid("u40;u45;s1,10,0;s0,12,0;s0,11,0;p1;");
        x.ask(0, 0, 0);
        due("tells(0), none of these telling anything but one", x.tells(0), 200);
        due("tells(1), none of these telling anything but one", x.tells(1), 2);
        // What is against at all SHIFTS that are left tells as little as what is at none.
        x = laid("u5;l5;u9;s3,5,0;s0,7,0;p1;");
        x.push(0, 0);
        x.ask(0, 0, 0);
        due("tells(0)", x.tells(0), 1);
        due("tells(1)", x.tells(1), 1);
        // Damp: the inch 40 is at 44 then, so too far for the inch 0.
        x = laid("u0;u4;s0,40,0;s1,44,0;p1;d0;d1;");
        x.ask(0, 0, 1);
        x.ask(1, 0, 1);
        due("tells(0), no such SHIFT", x.tells(0), NONE);
        x.forget();
        due("tells(1), two of its three SHIFTS being told", x.tells(1), 79);
        due("tells(0)", x.tells(0), 101);
        x.pass(1);
        due("tells(0), in a damp YEAR", x.tells(0), 1);
        due("tells(1), in a damp YEAR", x.tells(1), 80);
    }

    private static void chance(SlideLand x, int p, int way, int n, int slip, int above, int below) {
        String call = "slips(" + p + ", " + way + ", " + n + ", " + slip + ", ";
        due(call + "0)", x.slips(p, way, n, slip, 0), above);
        due(call + "1)", x.slips(p, way, n, slip, 1), below);
    }

    private static void slips() {
        promise = "25 slips";
        SlideLand x = laid("u5;u3;s0,4,0;p1;p2;");
        chance(x, 0, 0, 8, 3, 1, 1);
        x.ask(0, 0, 0);
        chance(x, 0, 0, 0, 3, 0, 1);
        chance(x, 0, 0, 1, 0, 1, 1);
        chance(x, 0, 0, 1, 10, 0, 1);
        chance(x, 0, 0, 1, 4, 3, 5);
        chance(x, 0, 0, 2, 5, 1, 2);
        chance(x, 0, 1, 2, 5, 0, 1);
        chance(x, 0, 0, 8, 3, 15309, 12500000);
        int[][] bad = {{-1, 0, 0, 0, 0}, {2, 0, 0, 0, 0}, {0, 2, 0, 0, 0}, {0, -1, 0, 0, 0}, {0, 0, 9, 0, 0},
            {0, 0, -1, 0, 0}, {0, 0, 0, 11, 0}, {0, 0, 0, -1, 0}, {0, 0, 0, 0, 2}, {0, 0, 0, 0, -1}};
        for (int[] b : bad) {
            due("slips of a bad number", x.slips(b[0], b[1], b[2], b[3], b[4]), BAD);
        }
        x.push(0, 0);
        chance(x, 0, 0, 0, 3, 1, 1);
        chance(x, 0, 0, 8, 10, 1, 1);
        due("count(5), nothing changes", x.count(5), 41);
        // CHALK goes by PUSHES that are done alone: 1 inch, then 2.
        x = laid("u5;s0,2,0;p2;");
        x.ask(0, 0, 0);
        x.chalk(1);
        chance(x, 0, 0, 2, 1, 81, 100);
        chance(x, 0, 0, 3, 1, 243, 1000);
        due("count(7), nothing changes", x.count(7), 1);
        // The SLOW one is a PUSH behind.
        x = laid("u5;s3,4,0;p1;");
        x.ask(0, 0, 0);
        chance(x, 0, 0, 1, 5, 0, 1);
        chance(x, 0, 0, 2, 5, 1, 4);
        // At the end more PUSHES do no harm: at 40 behind 2 of 3, or 3.
        x = laid("u50;s0,10,0;p20;");
        x.ask(0, 0, 0);
        chance(x, 0, 0, 3, 5, 1, 2);
    }

    private static void century() {
        promise = "26 century";
        // By 0: PUSH 0 to the right, a YEAR, PUSH 1287 modulo as many to the right, a YEAR, ..
        SlideLand x = laid("u5;l5;s0,4,9;p1;");
        due("century(0, 1, 0)", x.century(0, 1, 0), 9);
        due("century(0, 2, 0)", x.century(0, 2, 0), 10);
        due("century(0, 4, 0), being gone", x.century(0, 4, 0), 10);
        due("count(5), nothing changes", x.count(5), 40);
        due("count(4), nothing changes", x.count(4), 0);
        due("count(11), nothing changes", x.count(11), 0);
        // By 20: PUSH 2859 modulo as many to the left (22874 by 64, cut, is 357), a YEAR.
        due("century(20, 2, 0)", laid("u5;l5;s0,7,9;p9;p8;p7;p2;").century(20, 2, 0), 10);
        due("century(20, 2, 0)", laid("u5;l5;s0,9,9;p4;p8;p7;").century(20, 2, 0), 10);
        // By 144: PUSH 6272 modulo as many to the right (50179 by 64, cut, is 784), a YEAR.
        due("century(144, 2, 0)", laid("u5;l5;s0,3,9;p2;").century(144, 2, 0), 10);
        // By 94: CHALK 4, PUSH 7251 modulo as many to the right, a YEAR.
        due("century(94, 3, 0)", laid("u5;l5;s0,3,9;p9;p6;").century(94, 3, 0), 10);
        due("century(94, 3, 0)", laid("u5;l5;s0,3,9;p9;p4;").century(94, 3, 0), 9);
        int[][] bad = {{-1, 1, 0}, {10000, 1, 0}, {0, 0, 0}, {0, 61, 0}, {0, 1, -1}, {0, 1, 2}};
        for (int[] b : bad) {
            due("century of a bad number", x.century(b[0], b[1], b[2]), BAD);
        }
        // By 2: THE LINE at 7441 modulo 61, which is 60.
        x = laid("u60;l60;s0,4,9;p1;");
        due("century(2, 1, 1)", x.century(2, 1, 1), 2);
        due("count(8), nothing changes", x.count(8), 0);
        x.line(60);
        due("century(2, 1, 1), who are WED already, too", x.century(2, 1, 1), 2);
        due("century(2, 1, 1), of others", laid("u59;l59;s0,4,9;p1;").century(2, 1, 1), 0);
        // By 3: a YEAR. There is none behind YEAR 999.
        x = laid("u5;l5;s0,5,9;p1;");
        due("century(3, 1, 0)", x.century(3, 1, 0), 10);
        x.push(0, 0);
        for (int i = 0; i < 49; i++) {
            x.pass(20);
        }
        x.pass(18);
        x.push(0, 1);
        due("century(3, 1, 0), in YEAR 998", x.century(3, 1, 0), 10);
        x.push(0, 0);
        x.pass(1);
        x.push(0, 1);
        due("century(3, 1, 0), in YEAR 999", x.century(3, 1, 0), 9);
        due("behind(1, 0), in YEAR 999", x.behind(1, 0), 10);
    }

    private static void keepAndBack() {
        promise = "27 keep";
        SlideLand x = laid("u5;l5;s0,5,9;p1;p4;");
        due("keep()", x.keep(), 1);
        x.pass(2);
        x.push(1, 0);
        x.chalk(3);
        x.line(5);
        due("keep()", x.keep(), 2);
        due("keep()", x.keep(), FULL);
        due("count(12)", x.count(12), 2);
        due("count(11), which stays", x.count(11), 4);
        promise = "28 back";
        x.push(0, 1);
        x.ask(0, 0, 0);
        x.write(65);
        due("back()", x.back(), 1);
        counts(x, 1, 1, 1, 2, 2, 44, 40, 3, 2, 0, 1, 0, 1);
        due("land(0, 0, 1)", x.land(0, 0, 1), 2);
        due("strip(0, 2)", x.strip(0, 2), 11);
        due("count(13), which stays", x.count(13), 20);
        due("undo()", x.undo(), NO);
        x.push(0, 1);
        due("back()", x.back(), 0);
        counts(x, 1, 1, 1, 2, 0, 40, 40, 0, 0, 2, 1, 0, 0);
        due("land(0, 0, 1)", x.land(0, 0, 1), 0);
        due("strip(0, 2)", x.strip(0, 2), 9);
        due("back()", x.back(), NO);
        due("keep()", x.keep(), 1);
        x.push(0, 0);
        due("undo()", x.undo(), 0);
        due("count(12), KEPT still", x.count(12), 1);
        x.push(0, 0);
        due("lay(), which drops what is KEPT", x.lay(), NO);
        x.wipe();
        writeAll(x, "s0,1,1;p1;");
        due("lay()", x.lay(), 1);
        due("back()", x.back(), NO);
    }

    private static void count() {
        promise = "29 count";
        SlideLand x = laid(FOUR);
        counts(x, 2, 2, 4, 2, 0, 40, 40, 0, 0, 4, 0, 0, 0, 55);
        x.push(0, 0);
        x.push(1, 1);
        x.chalk(5);
        x.line(5);
        x.keep();
        x.ask(0, 0, 0);
        x.pass(1);
        // In YEAR 1, damp by 2, SHIFT 1, ahead 3: at 7, 9, 5 and 15; the RICH one by u1, the LEANING one by u0 and l0.
        counts(x, 2, 2, 4, 2, 1, 41, 43, 5, 2, 3, 1, 5, 1, 55);
        due("count(14)", x.count(14), BAD);
        due("count(-1)", x.count(-1), BAD);
    }

    /** What is far beyond what is told is BAD for each call alike. */
    private static void farNumbers() {
        promise = "far numbers";
        SlideLand x = new SlideLand();
        int[] far = {Integer.MIN_VALUE, Integer.MAX_VALUE, -1000000, 1000000};
        for (int f : far) {
            int[] got = {x.write(f), x.land(f, 0, 0), x.land(0, f, 0), x.land(0, 0, f), x.strip(f, 0), x.strip(0, f),
                x.inches(f), x.damp(f), x.against(f), x.push(f, 0), x.push(0, f), x.chalk(f), x.pass(f), x.line(f),
                x.ask(f, 0, 0), x.ask(0, f, 0), x.ask(0, 0, f), x.shifts(f), x.most(f), x.hut(f), x.behind(f, 0),
                x.behind(0, f), x.worth(f, 0), x.worth(1, f), x.tells(f), x.slips(f, 0, 1, 1, 0),
                x.slips(0, f, 1, 1, 0), x.slips(0, 0, f, 1, 0), x.slips(0, 0, 1, f, 0), x.slips(0, 0, 1, 1, f),
                x.century(f, 1, 0), x.century(1, f, 0), x.century(1, 1, f), x.count(f)};
            for (int i = 0; i < got.length; i++) {
                due("the " + i + "-th call with " + f, got[i], BAD);
            }
        }
        counts(x, 5, 5, 5, 2, 0, 40, 40, 0, 0, 1, 0, 0, 0, 0);
    }

    /** What an earlier land had more of is nowhere in a later one. */
    private static void landsAfterOthers() {
        promise = "lands after others";
        SlideLand x = laid("u5;u6;l5;l6;s0,5,50;s1,5,60;s1,5,70;p1;p2;p3;d3;d3;");
        x.push(2, 0);
        x.push(0, 0);
        for (int time = 0; time < 2; time++) {
            x.wipe();
            writeAll(x, "u5;l6;s0,2,7;p3;");
            due("lay()", x.lay(), 1);
            counts(x, 1, 1, 1, 1, 0, 40, 40, 0, 0, 0, 0, 0, 0, 16);
            due("strip(1, 0)", x.strip(1, 0), BAD);
            due("inches(1)", x.inches(1), BAD);
            due("push(1, 0)", x.push(1, 0), BAD);
            due("land(0, 1, 0)", x.land(0, 1, 0), BAD);
            due("damp(1)", x.damp(1), 0);
            due("most(0)", x.most(0), 1);
            due("most(1)", x.most(1), 43);
            due("hut(0)", x.hut(0), 2);
            due("worth(1, 0)", x.worth(1, 0), 99);
            due("worth(1, 1)", x.worth(1, 1), 7);
            due("century(3, 1, 0)", x.century(3, 1, 0), 7);
            due("tells(1)", x.tells(1), 80);
            due("pass(1)", x.pass(1), 1);
            due("land(0, 0, 1)", x.land(0, 0, 1), 0);
            due("land(1, 0, 1)", x.land(1, 0, 1), 0);
            x.push(0, 0);
            x.push(0, 0);
        }
    }
}
