import java.lang.reflect.Method;
import java.util.HashMap;
import java.util.Map;
import java.util.regex.Matcher;
import java.util.regex.Pattern;

/**
 * For each sentence of the document that names a boundary case (too small, too large, empty, full, a wrap-around,
 * a refused call) calls on both sides of the boundary. A sentence stands ahead of its calls in the document's words;
 * what is due is worked out by hand.
 */
public final class BoundaryTest {
    private static final int BAD = -1, NO = -2, FULL = -3, NONE = -4;
    private static final Map<String, Integer> NAMES = Map.of("BAD", BAD, "NO", NO, "FULL", FULL, "NONE", NONE);
    private static final Map<String, Method> FACE = new HashMap<>();
    private static final Pattern CALL = Pattern.compile("(?:(\\d+)\\*)?(\\w+)\\(([-0-9,]*)\\)(?:=(-?\\w+))?");

    /** Of each land so many: 2 of the UPPER, 3 of the LOWER, 4 of the STRIP, 3 PUSHES. */
    private static final String SOME = "u5;u9;l5;l6;l9;s0,5,9;s1,7,9;s2,9,9;s3,5,9;p1;p2;p3;d0;d1;";

    private static int wrong = 0;
    private static int sentences = 0;
    private static String sentence = "";
    private static SlideLand x = new SlideLand();

    public static void main(String[] args) {
        for (Method m : SlideLand.class.getMethods()) {
            if (m.getDeclaringClass() == SlideLand.class) {
                FACE.put(m.getName(), m);
            }
        }
        letters();
        formOfItems();
        peopleOfLands();
        peopleOfStrip();
        pushesAndDamps();
        dampYears();
        faults();
        laid();
        calls512();
        shiftAndChalk();
        endsOfGroove();
        places();
        against();
        trades();
        lastYear();
        line();
        whoIsWed();
        undone();
        asked();
        meeting();
        meetingOfSeveral();
        shifts();
        most();
        hut();
        behind();
        worth();
        tells();
        slips();
        century();
        centuryByDraws();
        kept();
        edgesOfNumbers();
        firstInOrder();
        refusedChangesNothing();
        askedChangesNothing();
        counts();
        System.out.println(wrong == 0 ? "BoundaryTest: all answers are as due, for " + sentences + " sentences"
                : wrong + " answers are not as due");
        if (wrong != 0) {
            System.exit(1);
        }
    }

    // ---- what the tests are written in

    private static void sentence(String words) {
        sentence = words;
        sentences++;
    }

    private static void due(String call, Object got, Object want) {
        if (!got.equals(want)) {
            wrong++;
            System.out.println("\"" + sentence + "\": " + call + " answered " + got + ", due is " + want);
        }
    }

    private static void fresh() {
        x = new SlideLand();
    }

    private static void write(String text) {
        for (int i = 0; i < text.length(); i++) {
            due("write of letter " + i + " of " + text, x.write(text.charAt(i)) >= 0, true);
        }
    }

    /** A new object, upon which a text is laid. */
    private static void lay(String text) {
        fresh();
        write(text);
        int strips = (" " + text).split("s").length - 1;
        due("lay() of " + text, x.lay(), strips);
    }

    /** What fault() answers to a text, and that it can't be laid, if there is one. */
    private static void fault(String text, int want) {
        fresh();
        write(text);
        due("fault() of " + text, x.fault(), want);
        if (want != NONE) {
            due("lay() of " + text, x.lay(), NO);
        }
    }

    private static int call(String name, int... numbers) {
        Object[] boxed = new Object[numbers.length];
        for (int i = 0; i < numbers.length; i++) {
            boxed[i] = numbers[i];
        }
        try {
            return (Integer) FACE.get(name).invoke(x, boxed);
        } catch (ReflectiveOperationException e) {
            throw new IllegalStateException("\"" + sentence + "\": " + name, e);
        }
    }

    /** Calls upon x in a row, as "push(0,1)=39 48*pass(20) line(5)=NO": how often, the call, what is due. */
    private static void calls(String row) {
        for (String told : row.trim().split("\\s+")) {
            Matcher m = CALL.matcher(told);
            if (!m.matches()) {
                throw new IllegalStateException("no call: " + told);
            }
            int[] numbers = m.group(3).isEmpty() ? new int[0]
                    : Pattern.compile(",").splitAsStream(m.group(3)).mapToInt(Integer::parseInt).toArray();
            int times = m.group(1) == null ? 1 : Integer.parseInt(m.group(1));
            for (int i = 0; i < times; i++) {
                int got = call(m.group(2), numbers);
                if (m.group(4) != null) {
                    Integer want = NAMES.get(m.group(4));
                    due(told + " in " + row, got, want == null ? Integer.valueOf(m.group(4)) : want);
                }
            }
        }
    }

    /** All that can be seen of x by calls that only look. */
    private static String look() {
        StringBuilder s = new StringBuilder();
        for (int what = 0; what <= 13; what++) {
            s.append(x.count(what)).append(' ');
        }
        for (int k = 0; k < 6; k++) {
            for (int what = 0; what < 3; what++) {
                s.append(x.land(0, k, what)).append(' ').append(x.land(1, k, what)).append(' ');
            }
        }
        for (int i = 0; i < 7; i++) {
            for (int what = 0; what < 5; what++) {
                s.append(x.strip(i, what)).append(' ');
            }
        }
        for (int i = 0; i < 8; i++) {
            s.append(x.inches(i)).append(' ').append(x.damp(i)).append(' ');
        }
        return s.toString();
    }

    // ---- a text

    private static void letters() {
        sentence("A TEXT is letters (200 at most)");
        fresh();
        for (int n = 1; n <= 200; n++) {
            due("write(48)", x.write(48), n);
        }
        calls("write(48)=FULL write(117)=FULL count(13)=200 fault()=0 wipe()=200 count(13)=0 write(48)=1");
        // 199 letters, and an ITEM that would end one too late.
        fresh();
        write("u1;u2;u3;u4;u5;u6;l1;l2;l3;l4;l5;l6;");
        write("s0,10,10;s0,10,10;s0,10,10;s0,10,10;s0,10,10;s0,10,10;s0,10,10;");
        write("p10;p10;p10;p10;d01;d01;d01;d01;d01;d01;d01;");
        calls("count(13)=143 fault()=NONE lay()=7");
        write("d1;");
        calls("fault()=NONE 54*write(59) count(13)=200 fault()=146 lay()=NO");

        sentence("A letter (32 to 126, as in ASCII) comes behind THE TEXT: how long it is. BAD; FULL.");
        fresh();
        calls("write(31)=BAD write(127)=BAD count(13)=0 write(32)=1 write(126)=2 write(31)=BAD count(13)=2");
        calls("write(-1)=BAD write(2147483647)=BAD write(-2147483648)=BAD write(373)=BAD write(-139)=BAD count(13)=2");

        sentence("THE TEXT is empty: how long it was.");
        fresh();
        calls("wipe()=0 wipe()=0 write(120)=1 fault()=0 wipe()=1 fault()=NONE wipe()=0 lay()=NO count(2)=5");

        sentence("As told; THE TEXT is empty.");
        fresh();
        calls("count(13)=0 fault()=NONE wipe()=0 lay()=NO count(2)=5 write(117)=1");
    }

    private static void formOfItems() {
        sentence("numbers (one or two figures)");
        for (String letter : new String[] {"u", "l", "p", "d"}) {
            fault(letter + ";", 0);
            fault(letter + "2;", NONE);
            fault(letter + "02;", NONE);
            fault(letter + "002;", 0);
            fault("u1;" + letter + "002;", 3);
        }
        for (int i = 0; i < 3; i++) {
            fault(stripOf(i, ""), 0);
            fault(stripOf(i, "2"), NONE);
            fault(stripOf(i, "02"), NONE);
            fault(stripOf(i, "002"), 0);
        }
        // The signs next to the figures 0 and 9 are none.
        fault("u/;", 0);
        fault("u:;", 0);
        fault("u1/;", 0);
        fault("u1:;", 0);
        fault("u0;u9;u09;u10;", NONE);

        sentence("numbers (one or two figures) parted by , and a ; behind the last one");
        fault("s0,5,9;", NONE);
        fault("s0;5,9;", 0);
        fault("s0,5;9;", 0);
        fault("s0.5,9;", 0);
        fault("s0,5-9;", 0);
        fault("s0 5 9;", 0);
        fault("s059;", 0);
        fault("s0,5,9,", 0);
        fault("s0,5,9", 0);
        fault("s0,5,", 0);
        fault("s0,5", 0);
        fault("s0,5;", 0);
        fault("s0,5,9,1;", 0);
        fault("u5", 0);
        fault("u5,", 0);
        fault("u5:", 0);
        fault("u5<", 0);
        fault("u5,6;", 0);
        fault("u5;l", 3);
        fault("u5;l6", 3);
        fault("u", 0);

        sentence("ITEMS one behind the other, each a letter");
        fault("u5;l6;", NONE);
        fault("u5; l6;", 3);
        fault("u5;;l6;", 3);
        fault(" u5;", 0);
        fault("u5; ", 3);
        fault("5;", 0);
        fault(";", 0);
        fault("U5;", 0);
        fault("L5;", 0);
        fault("t5;", 0);
        fault("v5;", 0);
        fault("k5;", 0);
        fault("m5;", 0);
        fault("q5;", 0);
        fault("o5;", 0);
        fault("c1;", 0);
        fault("e1;", 0);
        fault("r0,5,9;", 0);
        fault("S0,5,9;", 0);
        fault("uu5;", 0);
        // In any order.
        lay("d1;p3;s0,5,9;l1;u2;s3,6,8;p4;l3;d2;u4;");
        calls("count(0)=2 count(1)=2 count(2)=2 count(3)=2 land(0,0,0)=2 land(0,1,0)=4 land(1,0,0)=1 land(1,1,0)=3");
        calls("inches(0)=3 inches(1)=4 damp(0)=1 damp(1)=2 strip(0,1)=5 strip(1,1)=6");
    }

    private static String stripOf(int place, String number) {
        return "s" + (place == 0 ? number : "1") + "," + (place == 1 ? number : "1") + ","
                + (place == 2 ? number : "1") + ";";
    }

    private static void peopleOfLands() {
        sentence("uX one of the UPPER land at inch X (0 to 60)");
        fault("u0;u60;", NONE);
        fault("u61;", 0);
        fault("u99;", 0);
        fault("u60;u61;", 4);
        lay("u0;u60;s0,1,1;p1;");
        calls("land(0,0,0)=0 land(0,1,0)=60 count(0)=2 count(1)=0");

        sentence("uX one of the UPPER land at inch X (0 to 60); 6 at most, 0, 1, ..");
        lay("u6;u5;u4;u3;u2;u1;s0,1,1;p1;");
        calls("count(0)=6 land(0,0,0)=6 land(0,1,0)=5 land(0,4,0)=2 land(0,5,0)=1 land(0,6,0)=BAD land(0,-1,0)=BAD");
        fault("u1;u1;u1;u1;u1;u1;u1;", 18);
        fault("u1;u1;u1;u1;u1;u1;l1;u1;", 21);

        sentence("lX one of the LOWER land at inch X (0 to 60)");
        fault("l0;l60;", NONE);
        fault("l61;", 0);
        fault("l99;", 0);
        fault("l60;l61;", 4);
        lay("l0;l60;s0,1,1;p1;");
        calls("land(1,0,0)=0 land(1,1,0)=60 count(0)=0 count(1)=2");

        sentence("lX one of the LOWER land at inch X (0 to 60); 6 at most, 0, 1, ..");
        lay("u9;l6;l5;l4;l3;l2;l1;s0,1,1;p1;");
        calls("count(1)=6 land(1,0,0)=6 land(1,1,0)=5 land(1,4,0)=2 land(1,5,0)=1 land(1,6,0)=BAD land(1,-1,0)=BAD");
        calls("land(0,0,0)=9 land(0,1,0)=BAD");
        fault("l1;l1;l1;l1;l1;l1;l1;", 18);
        fault("u1;l1;u1;l1;u1;l1;u1;l1;u1;l1;u1;l1;l1;", 36);
    }

    private static void peopleOfStrip() {
        sentence("sK,X,G one of the STRIP of KIND K (0 PLAIN, 1 RICH, 2 LEANING, 3 SLOW)");
        fault("s0,1,1;s1,1,1;s2,1,1;s3,1,1;", NONE);
        fault("s4,1,1;", 0);
        fault("s10,1,1;", 0);
        fault("s3,1,1;s4,1,1;", 7);
        lay("s0,1,1;s1,1,1;s2,1,1;s3,1,1;p1;");
        calls("strip(0,0)=0 strip(1,0)=1 strip(2,0)=2 strip(3,0)=3");

        sentence("at its inch X (0 to 60), with G (0 to 99) GOODS");
        fault("s0,0,0;s0,60,99;", NONE);
        fault("s0,61,0;", 0);
        fault("s0,99,0;", 0);
        fault("s0,60,100;", 0);
        fault("s0,60,0;s0,61,0;", 8);
        lay("s0,0,99;s0,60,0;p1;");
        calls("strip(0,1)=0 strip(0,2)=99 strip(1,1)=60 strip(1,2)=0");

        sentence("GOODS; 7 at most, 0, 1, ..");
        lay("s0,7,1;s0,6,2;s0,5,3;s0,4,4;s0,3,5;s0,2,6;s0,1,7;p1;");
        calls("count(2)=7 strip(0,1)=7 strip(1,1)=6 strip(5,1)=2 strip(6,1)=1 strip(6,2)=7 strip(7,1)=BAD");
        fault("s0,1,1;s0,1,1;s0,1,1;s0,1,1;s0,1,1;s0,1,1;s0,1,1;s0,1,1;", 49);
    }

    private static void pushesAndDamps() {
        sentence("pP the office PUSHES by P (1 to 20) inches");
        fault("p1;p20;", NONE);
        fault("p0;", 0);
        fault("p00;", 0);
        fault("p21;", 0);
        fault("p99;", 0);
        fault("p20;p21;", 4);
        lay("s0,1,1;p1;p20;");
        calls("inches(0)=1 inches(1)=20 inches(2)=BAD inches(-1)=BAD push(0,0)=41 push(1,0)=61 push(2,0)=BAD");

        sentence("(the 0-th, 1-st, ..); 4 at most");
        lay("s0,1,1;p4;p3;p2;p1;");
        calls("count(3)=4 inches(0)=4 inches(1)=3 inches(2)=2 inches(3)=1 inches(4)=BAD push(3,0)=41 push(4,0)=BAD");
        fault("p1;p1;p1;p1;p1;", 12);
        fault("p1;p1;d1;p1;p1;u1;p1;", 18);

        sentence("dD it is DAMP by D (0 to 3) in a YEAR");
        fault("d0;d3;", NONE);
        fault("d4;", 0);
        fault("d10;", 0);
        fault("d3;d4;", 3);
        lay("s0,60,1;p1;d3;d0;");
        calls("damp(0)=3 damp(1)=0 strip(0,3)=178 pass(1)=1 strip(0,3)=160");

        sentence("in a YEAR; 8 at most");
        lay("s0,60,1;p1;d1;d2;d3;d0;d1;d2;d3;d2;");
        calls("damp(0)=1 damp(1)=2 damp(2)=3 damp(3)=0 damp(4)=1 damp(5)=2 damp(6)=3 damp(7)=2 damp(8)=1");
        fault("d1;d1;d1;d1;d1;d1;d1;d1;d1;", 24);
        fault("d1;d1;d1;d1;d1;d1;d1;d1;u1;d1;", 27);
    }

    private static void dampYears() {
        sentence("in YEAR 0 the first one, then the next, behind the last one the first again (0 alone without)");
        lay("s0,60,1;p1;d1;d2;d3;");
        calls("damp(0)=1 damp(1)=2 damp(2)=3 damp(3)=1 damp(98)=3 damp(99)=1 strip(0,3)=166");
        calls("pass(1)=1 strip(0,3)=172 damp(0)=2 pass(1)=2 strip(0,3)=178 pass(1)=3 strip(0,3)=166 damp(0)=1");
        calls("damp(1)=2");
        calls("49*pass(20) pass(16)=999 damp(0)=1 damp(1)=2 damp(2)=3 damp(99)=1 strip(0,3)=166");
        lay("s0,60,1;p1;d3;");
        calls("damp(0)=3 damp(1)=3 damp(99)=3 pass(1)=1 strip(0,3)=178 damp(0)=3");
        lay("s0,60,1;p1;");
        calls("damp(0)=0 damp(1)=0 damp(99)=0 strip(0,3)=160 pass(1)=1 strip(0,3)=160 damp(0)=0");

        sentence("DAMP behind n YEARS (0 to 99). BAD.");
        lay("s0,60,1;p1;d1;d2;d0;");
        calls("damp(-1)=BAD damp(0)=1 damp(99)=1 damp(100)=BAD damp(98)=0 pass(1)=1 damp(99)=2 damp(100)=BAD");
        calls("damp(0)=2");
    }

    private static void faults() {
        sentence("FAULT: the place (from 0 on) of the first letter of the first ITEM that is not so.");
        fault("", NONE);
        fault("x", 0);
        fault("u5;x", 3);
        fault("u5;x;y;z;", 3);
        fault("u61;l61;", 0);
        fault("u5;l61;s9,9,9;", 3);
        fault("u5;s0,5,9;l6;s0,5,9", 13);
        fault("s0,60,99;s0,60,99;s0,60,99;d4;", 27);
        // Numbers are too large, or there are too many, or the form is none: whichever comes first.
        fault("u1;u1;u1;u1;u1;u1;u1;u61;", 18);
        fault("u1;u1;u1;u1;u1;u61;u1;u1;", 15);
        fault("p1;p1;p1;p1;p;p1;", 12);
        // What is read once is read again in the same way.
        fresh();
        write("u5;x");
        calls("fault()=3 fault()=3 lay()=NO fault()=3 count(13)=4 count(0)=5 wipe()=4 fault()=NONE");
    }

    private static void laid() {
        sentence("LAID is a TEXT without FAULT, of one of the STRIP and a PUSH at least (NO else");
        fresh();
        calls("lay()=NO");
        for (String text : new String[] {"p1;", "s0,1,1;", "u1;l1;d1;", "u1;l1;p1;d1;", "u1;l1;s0,1,1;d1;",
            "s0,1,1;p1;x", "s0,1,1;p1", "s0,1,1;p21;", "s0,1,1;p1;d4;"}) {
            fresh();
            write(text);
            due("lay() of " + text, x.lay(), NO);
            calls("count(0)=5 count(1)=5 count(2)=5 count(3)=2 strip(0,1)=5 inches(1)=7");
        }
        lay("s0,1,1;p1;");
        calls("count(0)=0 count(1)=0 count(2)=1 count(3)=1 land(0,0,0)=BAD land(1,0,0)=BAD against(0)=0 count(9)=0");

        sentence("at first u3;u12;u20;u33;u47;l0;l9;l21;l40;l55;s0,5,10;s1,11,4;s2,18,7;s3,30,12;s0,41,3;p1;p7;d0;d0;d1;d2;");
        lay("u3;u12;u20;u33;u47;l0;l9;l21;l40;l55;s0,5,10;s1,11,4;s2,18,7;s3,30,12;s0,41,3;p1;p7;d0;d0;d1;d2;");
        x.wipe();
        String told = look();
        fresh();
        due("a new object", look(), told);

        sentence("how many are of the STRIP; YEAR 0, nobody WED, nothing ASKED, UNDONE, KEPT; THE TEXT stays. NO.");
        lay("u5;l5;s0,5,9;p3;");
        calls("pass(2)=2 line(5)=2 ask(0,0,0)=1 keep()=1 push(0,0)=43 keep()=2 push(0,0)=46 chalk(4)=0 count(11)=5");
        x.wipe();
        write("u5;l5;s0,5,9;p3;p0;");
        calls("lay()=NO count(4)=2 count(5)=46 count(6)=43 count(7)=4 count(8)=2 count(10)=1 count(11)=5 count(12)=2");
        calls("count(13)=19");
        calls("wipe()=19");
        write("u5;l5;s0,5,9;p3;");
        calls("lay()=1 count(4)=0 count(5)=40 count(6)=40 count(7)=0 count(8)=0 count(9)=2 count(10)=0 count(11)=0");
        calls("count(12)=0 count(13)=16 undo()=NO back()=NO forget()=0 land(0,0,1)=0 land(0,0,2)=0 strip(0,2)=9");
        calls("strip(0,4)=0 lay()=1 count(13)=16 fault()=NONE wipe()=16 lay()=NO count(2)=1");
        // What the land ahead of it had more of is gone, and what it had less of is there.
        x.wipe();
        write("s3,1,1;s2,2,2;p9;d1;d2;");
        calls("lay()=2 count(0)=0 count(1)=0 land(0,0,0)=BAD land(1,0,0)=BAD strip(1,0)=2 strip(2,0)=BAD inches(0)=9");
        calls("inches(1)=BAD damp(1)=2 damp(2)=1");
        // Of the STRIP and the PUSHES there were more in the land two ahead of it, who would be AGAINST somebody here.
        lay("s0,2,7;s0,5,8;s1,5,9;p1;p3;d2;");
        x.wipe();
        write("u5;l5;s0,2,7;p1;");
        calls("lay()=1 lay()=1 count(9)=0 most(0)=2 hut(0)=2 line(5)=2 strip(0,4)=0 undo()=0 damp(0)=0");
        calls("century(3,1,0)=7");
        calls("worth(1,0)=99 worth(1,1)=7 tells(0)=0 tells(1)=80 ask(0,0,0)=1 meeting(-1)=3 slips(1,0,1,0,0)=BAD");
        calls("pass(1)=1 land(0,0,1)=0 land(1,0,1)=0 line(5)=2 line(5)=NO");
        lay("s0,2,7;s0,5,8;p1;");
        x.wipe();
        write("u5;s0,2,7;p1;");
        calls("lay()=1 line(5)=NO lay()=1 line(5)=NO count(8)=0");
    }

    private static void calls512() {
        sentence("An object is used for at most 512 calls after it has been made");
        lay("u5;l5;s0,5,9;p3;");
        // 17 calls so far.
        calls("493*push(0,0) count(5)=80 push(0,1)=77");
        fresh();
        calls("511*push(0,0) push(1,1)=73");
        fresh();
        calls("510*write(117) undo()=NO write(117)=FULL");
    }

    // ---- acts

    private static void shiftAndChalk() {
        sentence("The STRIP has a SHIFT (-40 to 40), at first 0, and one that it had ahead of the latest PUSH"
                + " (at first 0, too); there is CHALK 0 to 9 in the groove, at first 0.");
        lay("s0,10,0;s3,10,0;p3;");
        calls("count(5)=40 count(6)=40 count(7)=0 strip(0,3)=110 strip(1,3)=110");
        calls("push(0,0)=43 count(6)=40 push(0,0)=46 count(6)=43 chalk(9)=0 count(6)=43 push(0,0)=46 count(6)=46");

        sentence("CHALK is c: what it was. BAD.");
        lay("s0,10,0;p3;");
        calls("chalk(-1)=BAD chalk(10)=BAD count(7)=0 count(11)=0 chalk(9)=0 count(7)=9 chalk(9)=9 chalk(0)=9");
        calls("count(7)=0");
        calls("chalk(0)=0 count(11)=4 chalk(10)=BAD count(11)=4");

        sentence("the SHIFT is so many inches less CHALK (0 at least) more, or less");
        lay("s0,5,0;p3;");
        calls("chalk(2)=0 push(0,0)=41 chalk(3)=1 push(0,0)=41 chalk(4)=2 push(0,0)=41 chalk(9)=3 push(0,0)=41");
        calls("chalk(2)=8 push(0,1)=40 chalk(3)=1 push(0,1)=40 chalk(4)=2 push(0,1)=40 chalk(9)=3 push(0,1)=40");
        calls("chalk(0)=8 push(0,1)=37 push(0,0)=40");

        sentence("CHALK is 1 less then (0 at least).");
        lay("s0,5,0;p3;p20;");
        calls("chalk(4)=0 push(0,0)=40 count(7)=3 push(0,1)=40 count(7)=2 push(0,1)=39 count(7)=1 push(0,0)=41");
        calls("count(7)=0");
        calls("push(0,0)=44 count(7)=0 push(0,1)=41 count(7)=0");
        calls("push(1,0)=61 push(1,0)=80 chalk(5)=0 push(1,0)=80 count(7)=4");
    }

    private static void endsOfGroove() {
        sentence("40 either way at most");
        lay("s0,5,0;p20;p1;");
        calls("push(0,0)=60 push(0,0)=80 count(6)=60 push(1,0)=80 count(6)=80 push(1,1)=79 count(6)=80 push(1,0)=80");
        calls("push(1,1)=79 push(0,0)=80 count(6)=79 push(0,1)=60 push(0,1)=40 push(0,1)=20 push(0,1)=0 count(6)=20");
        calls("push(1,1)=0 count(6)=0 push(1,0)=1 count(6)=0 push(1,1)=0 push(1,0)=1 push(0,1)=0 count(6)=1");
        calls("push(0,0)=20");
        calls("strip(0,3)=85 3*push(0,0) push(0,0)=80 strip(0,3)=145");

        sentence("A PUSH: the SHIFT, and 40. BAD.");
        lay("s0,5,0;p20;p1;");
        calls("push(0,1)=20 push(0,1)=0 push(2,0)=BAD push(-1,0)=BAD push(0,2)=BAD push(0,-1)=BAD count(5)=0");
        calls("count(11)=2");
    }

    private static void places() {
        sentence("its inch X, and X times DAMP of this YEAR by 10, cut, and the SHIFT");
        lay("s0,0,0;s0,3,0;s0,4,0;s0,60,0;s0,9,0;s0,10,0;s3,60,0;p5;d3;d1;d0;");
        places(100, 103, 105, 178, 111, 113, 178);
        calls("push(0,1)=35");
        places(95, 98, 100, 173, 106, 108, 178);
        calls("push(0,1)=30");
        places(90, 93, 95, 168, 101, 103, 173);
        calls("pass(1)=1");
        places(90, 93, 94, 156, 99, 101, 161);
        calls("pass(1)=2");
        places(90, 93, 94, 150, 99, 100, 155);
        calls("pass(1)=3");
        places(90, 93, 95, 168, 101, 103, 173);
        lay("s0,0,0;s0,60,0;s0,59,0;p20;d3;");
        calls("2*push(0,0)");
        places(140, 218, 216);
        calls("4*push(0,1)");
        places(60, 138, 136);

        sentence("a SLOW one by the SHIFT that was ahead of the latest PUSH");
        lay("s3,10,0;p3;");
        calls("strip(0,3)=110 push(0,0)=43 strip(0,3)=110 push(0,1)=40 strip(0,3)=113 chalk(9)=0 strip(0,3)=113");
        calls("push(0,0)=40 strip(0,3)=110 undo()=3 strip(0,3)=113 pass(1)=1 strip(0,3)=113");

        sentence("KIND (what = 0), inch (1), GOODS (2), PLACE, and 100 (3), 1 if WED (4). BAD.");
        lay("l60;s3,60,99;p20;");
        calls("strip(0,-1)=BAD strip(0,0)=3 strip(0,1)=60 strip(0,2)=99 strip(0,3)=160 strip(0,4)=0 strip(0,5)=BAD");
        calls("line(60)=2 strip(0,4)=1 strip(1,0)=BAD strip(-1,0)=BAD");
    }

    private static void places(int... want) {
        for (int s = 0; s < want.length; s++) {
            due("strip(" + s + ", 3)", x.strip(s, 3), want[s]);
        }
    }

    private static void against() {
        // Less these inches the PLACE 30 is: UPPER -3, -2, -1, 0, 1, 2; LOWER 3, 4, 0, -1, 2, 1.
        String round = "u33;u32;u31;u30;u29;u28;l27;l26;l30;l31;l28;l29;";
        sentence("It is AGAINST one of the UPPER or LOWER land, if its PLACE less that one's inch is 0");
        lay(round + "s0,30,0;p1;");
        calls("against(0)=264 count(9)=2");
        lay(round + "s3,30,0;p1;");
        calls("against(0)=264 count(9)=2");

        sentence("of a RICH one also, if it is 1 or -1");
        lay(round + "s1,30,0;p1;");
        calls("against(0)=2844 count(9)=6");

        sentence("of a LEANING one also, if it is 2");
        lay(round + "s2,30,0;p1;");
        calls("against(0)=1320 count(9)=4");

        sentence("of the UPPER land (bits 0 to 5), LOWER (6 to 11). BAD.");
        lay("u5;u6;u6;u6;u6;u6;l6;l6;l6;l6;l6;l5;s0,5,0;s0,6,0;s0,7,0;p1;");
        calls("against(0)=2049 against(1)=2046 against(2)=0 against(3)=BAD against(-1)=BAD count(9)=12");
        lay("s0,5,0;s1,0,0;s2,2,0;p1;");
        calls("against(0)=0 against(1)=0 against(2)=0 count(9)=0");
    }

    private static void trades() {
        sentence("if it has GOODS, it has 1 less, and that one 1 more (what it HAS, at first 0)");
        lay("u5;u5;l9;s0,5,0;p1;");
        calls("land(0,0,1)=0 pass(1)=1 strip(0,2)=0 land(0,0,1)=0 land(0,1,1)=0");
        lay("u5;u5;l9;s0,5,1;p1;");
        calls("pass(1)=1 strip(0,2)=0 land(0,0,1)=1 land(0,1,1)=0 pass(1)=2 land(0,0,1)=1 land(0,1,1)=0 land(1,0,1)=0");
        lay("l5;l5;u5;u5;s0,5,3;p1;");
        calls("pass(1)=1 strip(0,2)=3 land(0,0,1)=1 land(0,1,1)=1 land(1,0,1)=1 land(1,1,1)=0");
        lay("u5;s0,5,1;s0,5,0;s0,5,2;p1;");
        calls("pass(1)=1 land(0,0,1)=2 strip(0,2)=0 strip(1,2)=0 strip(2,2)=1 pass(1)=2 land(0,0,1)=3 strip(2,2)=0");
        // Nothing is told that holds back what one HAS.
        lay("u5;l5;s0,5,9;p1;");
        calls("6*pass(20) land(0,0,1)=120 land(1,0,1)=120 strip(0,2)=99");

        sentence("if it is AGAINST one of the UPPER land at least, and one of the LOWER one, it has 3 GOODS more (99 at most)");
        lay("u5;l5;s0,5,0;p1;");
        calls("pass(1)=1 strip(0,2)=3 land(0,0,1)=0 land(1,0,1)=0 pass(1)=2 strip(0,2)=4 land(0,0,1)=1 land(1,0,1)=1");
        lay("u5;l6;s0,5,9;s0,6,9;s0,7,9;s1,5,9;p1;");
        calls("pass(1)=1 strip(0,2)=8 strip(1,2)=8 strip(2,2)=9 strip(3,2)=10");
        lay("u5;u5;l5;s0,5,9;s1,6,1;p1;");
        calls("pass(1)=1 strip(0,2)=9 strip(1,2)=3 land(0,0,1)=2 land(0,1,1)=1 land(1,0,1)=1");
        lay("u5;l5;s0,5,97;s0,5,98;s0,5,99;p1;");
        calls("pass(1)=1 strip(0,2)=98 strip(1,2)=99 strip(2,2)=99 pass(1)=2 strip(0,2)=99 strip(1,2)=99");
        calls("strip(2,2)=99");
        // The YEAR's own DAMP holds for its trade: at 10, then at 11, then at 10 again.
        lay("u11;s0,10,9;p1;d0;d1;");
        calls("pass(1)=1 strip(0,2)=9 pass(1)=2 strip(0,2)=8 pass(2)=4 strip(0,2)=7 land(0,0,1)=2");
    }

    private static void lastYear() {
        sentence("Then it is the next YEAR (999 at most).");
        lay("u5;s0,5,9;p1;");
        calls("49*pass(20) count(4)=980 strip(0,2)=0 pass(20)=NO count(4)=980 pass(18)=998 pass(2)=NO pass(1)=999");
        calls("pass(1)=NO pass(20)=NO count(4)=999 undo()=7 count(4)=998 pass(1)=999");
        lay("u5;s0,5,9;p1;");
        calls("pass(19)=19 49*pass(20) count(4)=999 pass(1)=NO");

        sentence("n YEARS (1 to 20) go by: which it is. BAD; NO: beyond 999.");
        lay("u5;s0,5,99;p1;");
        calls("pass(0)=BAD pass(-1)=BAD pass(21)=BAD count(4)=0 count(11)=0 pass(1)=1 pass(20)=21 strip(0,2)=78");
        calls("48*pass(20) pass(19)=NO pass(21)=BAD pass(0)=BAD count(4)=981 strip(0,2)=0 count(11)=8 pass(18)=999");
    }

    private static void line() {
        sentence("THE LINE is laid at an inch (-99 to 99)");
        lay("u0;l0;u60;l60;s0,30,0;p20;");
        calls("line(-100)=BAD line(100)=BAD line(-99)=NO line(99)=NO line(-1)=NO line(61)=NO count(11)=0");
        calls("line(0)=2 line(60)=4 count(11)=2 line(100)=BAD line(2147483647)=BAD line(-2147483648)=BAD");

        sentence("THE LINE is laid: how many are WED then. BAD; NO: it weds nobody.");
        lay("u5;u5;l6;l6;s0,7,0;s0,7,0;s0,8,0;u8;p1;");
        calls("line(4)=NO line(5)=NO line(6)=NO line(7)=NO count(8)=0 count(11)=0 line(8)=2 line(8)=NO count(8)=2");
        calls("count(11)=1");
        lay("s0,0,0;p1;");
        calls("line(0)=NO count(8)=0 count(11)=0");

        sentence("of those at it (of the STRIP by PLACE)");
        lay("u10;s0,9,0;s3,10,0;p1;d0;d1;");
        // By 1 to the right the PLAIN one is at 10, and the SLOW one still; WED is the lowest of them.
        calls("push(0,0)=41 line(9)=NO line(10)=2 strip(0,4)=1 strip(1,4)=0");
        lay("u10;s0,9,0;s3,10,0;p1;d0;d1;");
        calls("line(9)=NO line(10)=2 strip(0,4)=0 strip(1,4)=1 undo()=0 push(0,1)=39 line(10)=2 strip(1,4)=1");
        lay("u11;s0,10,0;p1;d0;d1;");
        calls("line(11)=NO line(10)=NO pass(1)=1 line(10)=NO line(11)=2");
        // The UPPER land being full, none of it is at the inch.
        lay("u1;u1;u1;u1;u1;u1;l7;s0,5,0;p1;");
        calls("line(7)=NO line(5)=NO count(8)=0");
        // AGAINST is not at it.
        lay("u10;l12;s1,11,0;s2,12,0;p1;");
        calls("line(10)=NO line(11)=NO line(12)=2 land(1,0,2)=1 strip(1,4)=1");
    }

    private static void whoIsWed() {
        sentence("who are not WED the lowest of each land");
        lay("u9;u5;u5;s0,9,0;s0,5,0;s0,5,0;s0,5,0;p1;");
        calls("line(5)=2 land(0,0,2)=0 land(0,1,2)=1 land(0,2,2)=0 strip(0,4)=0 strip(1,4)=1 strip(2,4)=0");
        calls("line(5)=4 land(0,2,2)=1 strip(2,4)=1 strip(3,4)=0 line(5)=NO strip(3,4)=0 line(9)=6 land(0,0,2)=1");
        calls("strip(0,4)=1");

        sentence("of two of these of unlike lands, UPPER and STRIP ahead of STRIP and LOWER, ahead of UPPER and LOWER,"
                + " both are WED");
        lay("u5;l5;s0,5,0;p1;");
        calls("line(5)=2 land(0,0,2)=1 strip(0,4)=1 land(1,0,2)=0 line(5)=NO");
        lay("u5;l5;l5;s0,5,0;s0,5,0;p1;");
        calls("line(5)=2 land(0,0,2)=1 strip(0,4)=1 line(5)=4 land(1,0,2)=1 strip(1,4)=1 land(1,1,2)=0 line(5)=NO");
        lay("u5;u5;l5;s0,5,0;p1;");
        calls("line(5)=2 land(0,0,2)=1 strip(0,4)=1 line(5)=4 land(0,1,2)=1 land(1,0,2)=1 line(5)=NO");
        // All that a land can have: six of either, seven of the STRIP, the last one of these being left alone.
        lay("u5;u5;u5;u5;u5;u5;l5;l5;l5;l5;l5;l5;s0,5,0;s0,5,0;s0,5,0;s0,5,0;s0,5,0;s0,5,0;s0,5,0;p1;");
        calls("5*line(5) line(5)=12 land(0,5,2)=1 strip(5,4)=1 strip(6,4)=0 land(1,0,2)=0 line(5)=14 strip(6,4)=1");
        calls("land(1,0,2)=1 land(1,5,2)=0 line(5)=NO count(8)=14");

        sentence("inch (what = 0), what it HAS (1), 1 if WED (2). BAD.");
        lay("u5;u6;l7;s0,5,1;p1;");
        calls("pass(1)=1 line(5)=2 land(0,0,0)=5 land(0,0,1)=1 land(0,0,2)=1 land(0,1,2)=0 land(0,0,3)=BAD");
        calls("land(0,0,-1)=BAD");
        calls("land(0,2,0)=BAD land(1,1,0)=BAD land(2,0,0)=BAD land(-1,0,0)=BAD land(0,-1,0)=BAD land(1,0,0)=7");
    }

    private static void undone() {
        sentence("UNDONE are the latest of PUSHES, CHALK told, YEARS, LINES (all that go by at one time are one");
        lay("u5;l5;s0,5,9;p3;");
        calls("push(0,0)=43 push(0,1)=40 chalk(6)=0 pass(20)=20 line(5)=2 count(11)=5");
        calls("undo()=4 count(8)=0 count(4)=20 land(1,0,1)=20 undo()=3 count(4)=0 land(1,0,1)=0 strip(0,2)=9");
        calls("count(7)=6");
        calls("undo()=2 count(7)=0 count(5)=40 count(6)=43 undo()=1 count(5)=43 count(6)=40 undo()=0 count(5)=40");
        calls("undo()=NO");

        sentence("the last 8 can be");
        lay("u5;l5;s0,5,9;p3;");
        calls("chalk(1)=0 chalk(2)=1 chalk(3)=2 chalk(4)=3 chalk(5)=4 chalk(6)=5 chalk(7)=6 count(11)=7 chalk(8)=7");
        calls("count(11)=8");
        calls("undo()=7 undo()=6 undo()=5 undo()=4 undo()=3 undo()=2 undo()=1 undo()=0 count(7)=0 undo()=NO");
        calls("chalk(1)=0 chalk(2)=1 chalk(3)=2 chalk(4)=3 chalk(5)=4 chalk(6)=5 chalk(7)=6 chalk(8)=7 chalk(9)=8");
        calls("count(11)=8");
        calls("undo()=7 count(7)=8 undo()=6 count(7)=7 undo()=5 count(7)=6 undo()=4 count(7)=5 undo()=3 count(7)=4");
        calls("undo()=2");
        calls("count(7)=3 undo()=1 count(7)=2 undo()=0 count(7)=1 undo()=NO count(7)=1");
        calls("20*push(0,0) count(11)=8 undo()=7 push(0,0)=80 count(11)=8 8*undo() count(11)=0 undo()=NO");

        sentence("UNDONE: how many more can be. NO.");
        lay("u5;l5;s0,5,9;p3;");
        calls("undo()=NO ask(0,0,0)=1 keep()=1 write(117)=17 forget()=1 wipe()=17 count(11)=0 undo()=NO");
        calls("push(0,0)=43 ask(0,0,0)=1 count(11)=1 undo()=0 count(10)=1 count(12)=1 undo()=NO count(5)=40");
    }

    // ---- who meets whom

    private static void asked() {
        sentence("ASKED (6 at most)");
        lay("u5;l5;l6;s0,5,9;s0,6,9;s0,7,9;p3;");
        calls("ask(0,0,0)=1 ask(0,1,0)=2 ask(0,1,1)=3 ask(1,0,0)=4 ask(1,1,0)=5 ask(1,1,1)=6 ask(2,0,0)=FULL");
        calls("count(10)=6");
        calls("shifts(0)=0 forget()=6 count(10)=0 ask(2,0,0)=1 shifts(0)=1 shifts(1)=38");

        sentence("ASKED: how many. BAD; FULL.");
        lay("u5;l5;l6;s0,5,9;s0,6,9;p3;");
        calls("ask(2,0,0)=BAD ask(-1,0,0)=BAD ask(0,2,0)=BAD ask(0,-1,0)=BAD ask(0,0,1)=BAD ask(0,1,2)=BAD");
        calls("ask(0,0,-1)=BAD");
        calls("count(10)=0 ask(1,1,1)=1 ask(1,0,0)=2 count(10)=2 shifts(0)=0");
        lay("s0,5,9;p3;");
        calls("ask(0,0,0)=BAD ask(0,1,0)=BAD count(10)=0");

        sentence("Nothing is ASKED: how many were.");
        lay("u5;s0,5,9;p3;");
        calls("forget()=0 ask(0,0,0)=1 shifts(0)=1 forget()=1 forget()=0 shifts(0)=81 meeting(-1)=0");
    }

    private static void meeting() {
        sentence("behind which all that is ASKED is so, that of fewest (9 at most)");
        lay("u14;u15;l13;s0,5,0;p1;");
        calls("ask(0,1,0)=1 meeting(-1)=8 meeting(7)=0 meeting(8)=NONE forget()=1");
        calls("ask(0,0,0)=1 meeting(-1)=9 meeting(8)=0 meeting(9)=NONE forget()=1");
        calls("ask(0,0,1)=1 meeting(-1)=NONE meeting(0)=NONE push(0,0)=41 meeting(-1)=9 meeting(0)=0 meeting(8)=0");
        lay("u5;u4;l14;s0,14,0;p1;");
        calls("ask(0,0,0)=1 meeting(-1)=9 meeting(0)=1 meeting(8)=1 forget()=1 ask(0,0,1)=1 meeting(-1)=NONE");
        // A SLOW one takes one PUSH more.
        lay("u13;u14;s3,5,0;p1;");
        calls("ask(0,0,0)=1 meeting(-1)=9 meeting(8)=0 forget()=1 ask(0,0,1)=1 meeting(-1)=NONE");

        sentence("how many (k = -1), the k-th (0 first; NONE: there are not so many). NONE; BAD (k below -1).");
        lay("u5;u7;u1;s0,5,0;p2;");
        calls("meeting(-1)=0 meeting(0)=NONE meeting(-2)=BAD ask(0,0,0)=1 meeting(-1)=0 meeting(0)=NONE forget()=1");
        calls("ask(0,1,0)=BAD ask(0,0,1)=1 meeting(-1)=1 meeting(0)=0 meeting(1)=NONE meeting(2147483647)=NONE");
        calls("forget()=1");
        calls("ask(0,0,2)=1 meeting(-1)=2 meeting(0)=1 meeting(1)=1 meeting(2)=NONE meeting(-2)=BAD");
        calls("meeting(-2147483648)=BAD");
        calls("ask(0,0,1)=2 meeting(-1)=NONE meeting(0)=NONE meeting(2147483647)=NONE meeting(-2)=BAD");

        sentence("there being no CHALK, the YEAR staying");
        lay("u9;u11;s0,10,0;p1;d0;d1;");
        calls("chalk(9)=0 ask(0,0,0)=1 meeting(-1)=1 meeting(0)=1 count(7)=9 forget()=1 ask(0,0,1)=1 meeting(0)=0");
        calls("pass(1)=1 meeting(-1)=0 forget()=1 ask(0,0,0)=1 meeting(-1)=2 count(7)=9 count(4)=1 count(5)=40");
        // By the ends of the groove, there as here: behind PUSHES of 20 at 40 and at 40.
        lay("u50;l50;s0,10,0;s3,10,0;p20;p20;p20;p20;");
        calls("ask(0,0,0)=1 ask(1,1,0)=2 meeting(-1)=3 meeting(0)=0 meeting(1)=0 meeting(2)=0 meeting(3)=NONE");
        calls("2*push(0,0) meeting(-1)=1 meeting(0)=0 push(3,0)=80 meeting(-1)=0 push(0,1)=60 meeting(-1)=2");
        lay("u10;l10;s0,50,0;s3,50,0;p20;");
        calls("ask(0,0,0)=1 ask(1,1,0)=2 meeting(-1)=3 meeting(0)=1 meeting(1)=1 meeting(2)=1 meeting(3)=NONE");
        // By 20 from 0 it is never at -9; from 31, where it comes to by CHALK alone, it is, but never at 30.
        lay("u21;u60;s0,30,0;p20;");
        calls("ask(0,0,0)=1 meeting(-1)=NONE push(0,0)=60 chalk(9)=0 push(0,0)=71 meeting(-1)=2 forget()=1");
        calls("ask(0,0,1)=1 meeting(-1)=NONE undo()=2 undo()=1 undo()=0 forget()=1 ask(0,0,0)=1");
        calls("meeting(-1)=NONE meeting(0)=NONE");
    }

    private static void meetingOfSeveral() {
        sentence("of several the first (by the first PUSH: the lower one, right ahead of left, then the second, ..)");
        // Less its inch the PLACE is 1: right it is 2, left it is 0, of a LEANING one both will do.
        lay("u9;s2,10,0;p1;p1;");
        calls("ask(0,0,0)=1 meeting(-1)=1 meeting(0)=0");
        // The lower one is too far.
        lay("u9;s2,10,0;p5;p1;p1;");
        calls("ask(0,0,0)=1 meeting(-1)=1 meeting(0)=10");
        lay("u9;s0,10,0;p5;p6;p7;p1;");
        calls("ask(0,0,0)=1 meeting(-1)=1 meeting(0)=31");
        lay("u10;s0,30,0;p20;");
        calls("ask(0,0,0)=1 meeting(-1)=1 meeting(0)=1");
        // -2 by 5 to the left and 3 to the right: the lower one first, if to the left.
        lay("u8;s0,10,0;p5;p3;");
        calls("ask(0,0,0)=1 meeting(-1)=2 meeting(0)=1 meeting(1)=10");
        lay("u12;s0,10,0;p5;p3;");
        calls("ask(0,0,0)=1 meeting(-1)=2 meeting(0)=0 meeting(1)=11");
        // From 5 to 0 or 2: 4 to the left, then 1 to either side.
        lay("u5;s2,10,0;p4;p1;");
        calls("ask(0,0,0)=1 meeting(-1)=2 meeting(0)=1 meeting(1)=10 meeting(2)=NONE");
        // A SLOW one is there behind any PUSH: it is where the SHIFT is now.
        lay("u10;s3,9,0;p7;p1;");
        calls("ask(0,0,0)=1 push(1,0)=41 meeting(-1)=1 meeting(0)=0");
        // 12 by 9 and 5 and -2, by 5 and 5 and 2: in any order, the first is 9, 5, -2.
        lay("u22;s0,10,0;p9;p5;p2;");
        calls("ask(0,0,0)=1 meeting(-1)=3 meeting(0)=0 meeting(1)=10 meeting(2)=21 meeting(3)=NONE");
    }

    private static void shifts() {
        sentence("from -40 to 40, for SLOW ones, too, by which all that is ASKED is so: how many; the lowest; none.");
        lay("u0;u19;u20;u59;u60;s0,40,0;s1,20,0;p1;");
        calls("shifts(0)=81 shifts(1)=0 ask(0,0,0)=1 shifts(0)=1 shifts(1)=0 forget()=1");
        calls("ask(0,0,4)=1 shifts(0)=1 shifts(1)=60 forget()=1");
        // The RICH one at 20: at 19, 20, 21, and two of these at the end of the groove, or all.
        calls("ask(1,0,4)=1 shifts(0)=2 shifts(1)=79 forget()=1 ask(1,0,3)=1 shifts(0)=3 shifts(1)=78 forget()=1");
        lay("u0;u1;s0,41,0;s1,41,0;s2,42,0;s3,40,0;s2,41,0;p1;");
        calls("ask(0,0,0)=1 shifts(0)=0 shifts(1)=NONE forget()=1 ask(1,0,0)=1 shifts(0)=1 shifts(1)=0 forget()=1");
        calls("ask(2,0,0)=1 shifts(0)=1 shifts(1)=0 forget()=1 ask(4,0,0)=1 shifts(0)=1 shifts(1)=1 forget()=1");
        calls("3*push(0,0) ask(3,0,0)=1 shifts(0)=1 shifts(1)=0 ask(3,0,1)=2 shifts(0)=0 shifts(1)=NONE");
        lay("u60;s0,19,0;s1,19,0;s2,20,0;s2,22,0;s3,20,0;p1;");
        calls("ask(0,0,0)=1 shifts(0)=0 forget()=1 ask(1,0,0)=1 shifts(0)=1 shifts(1)=80 forget()=1");
        calls("ask(2,0,0)=1 shifts(0)=1 shifts(1)=80 forget()=1 ask(3,0,0)=1 shifts(0)=2 shifts(1)=78 forget()=1");
        calls("ask(4,0,0)=1 shifts(0)=1 shifts(1)=80");

        sentence("how many (what = 0), the lowest, and 40 (1; NONE). BAD.");
        lay("u5;u6;s0,5,0;p1;");
        calls("shifts(-1)=BAD shifts(2)=BAD ask(0,0,0)=1 ask(0,0,1)=2 shifts(0)=0 shifts(1)=NONE shifts(2)=BAD");
        calls("shifts(-1)=BAD");
    }

    private static void most() {
        sentence("that by which most pairs are AGAINST one another, of several the lowest: how many; which.");
        lay("u0;s0,40,0;p1;");
        calls("most(0)=1 most(1)=0");
        calls("most(0)=1 most(1)=0");
        lay("u1;s0,40,0;p1;");
        calls("most(0)=1 most(1)=1");
        lay("u60;s0,20,0;p1;");
        calls("most(0)=1 most(1)=80");
        lay("u0;u60;s0,41,0;s0,19,0;p1;");
        // From 41 to 60 it is 19, from 19 to 0 it is -19: as many, so the lower one.
        calls("most(0)=1 most(1)=21");
        lay("u0;u60;u60;s0,41,0;s0,19,0;p1;");
        calls("most(0)=2 most(1)=59");
        lay("u0;s0,41,0;s0,60,0;p1;");
        calls("most(0)=0 most(1)=0");
        lay("s0,40,0;p1;");
        calls("most(0)=0 most(1)=0");
        // The RICH one is so at three, the LEANING one at two: together at the higher one of these.
        lay("u10;s1,10,0;s2,11,0;s3,11,0;p1;");
        calls("most(0)=3 most(1)=39 2*push(0,0) most(0)=3 most(1)=39");
        // The LEANING one by both of its SHIFTS, and at the end of the groove by the one of them that is there.
        lay("u5;u7;s2,10,0;p1;");
        calls("most(0)=2 most(1)=37");
        lay("u0;s2,42,0;p1;");
        calls("most(0)=1 most(1)=0");
        lay("u60;s2,21,0;p1;");
        calls("most(0)=1 most(1)=79");
        lay("u0;u0;u0;u0;u0;u0;l0;l0;l0;l0;l0;l0;s0,1,0;s1,1,0;s2,1,0;s3,1,0;s0,1,0;s1,1,0;s2,1,0;p1;");
        calls("most(0)=84 most(1)=39");

        sentence("MOST: how many (what = 0), which, and 40 (1). BAD.");
        lay("u5;s0,5,0;p1;");
        calls("most(-1)=BAD most(2)=BAD most(0)=1 most(1)=40");
    }

    private static void hut() {
        sentence("of inches 0 to 60 for one more of the STRIP, a PLAIN one");
        lay("u40;l40;s0,5,0;p1;");
        calls("hut(0)=2 hut(1)=0");
        lay("u41;l40;s0,5,0;p1;");
        calls("hut(0)=2 hut(1)=1");
        lay("u0;l60;s0,5,0;p1;");
        calls("hut(0)=2 hut(1)=20");
        lay("u0;u41;l0;s0,5,0;p1;");
        calls("hut(0)=3 hut(1)=1");
        // As the STRIP is full, and as there is nobody.
        lay("u50;s0,1,0;s0,1,0;s0,1,0;s0,1,0;s0,1,0;s0,1,0;s0,1,0;p1;");
        calls("hut(0)=1 hut(1)=10 count(2)=7");
        lay("s0,1,0;p1;");
        calls("hut(0)=0 hut(1)=0");

        sentence("over all SHIFTS from -40 to 40, it would be AGAINST most, each counted for each SHIFT, of several the lowest");
        lay("u0;u60;l0;l60;u30;l30;s0,5,0;p1;d0;d1;d3;");
        // The inch that is at 20 then: 20; 19, and 1; 16, and 4.
        calls("hut(0)=6 hut(1)=20 pass(1)=1 hut(0)=6 hut(1)=19 pass(1)=2 hut(0)=6 hut(1)=16");
        lay("u60;u60;u60;u60;u60;u60;l60;l60;l60;l60;l60;l60;s0,5,0;p20;");
        calls("hut(0)=12 hut(1)=20 2*push(0,0) hut(0)=12 hut(1)=20");

        sentence("HUT: how many (what = 0), which (1). BAD.");
        calls("hut(-1)=BAD hut(2)=BAD hut(0)=12");
    }

    private static void behind() {
        sentence("BEHIND n (0 to 40) YEARS (beyond YEAR 999, too, here and by WORTH) GOODS of one of the STRIP.");
        lay("u5;l9;l9;s0,5,41;s0,9,99;s0,7,3;p1;");
        calls("behind(0,0)=41 behind(1,0)=40 behind(39,0)=2 behind(40,0)=1 behind(41,0)=BAD behind(-1,0)=BAD");
        calls("behind(40,1)=19 behind(40,2)=3 behind(40,3)=BAD behind(0,-1)=BAD behind(0,3)=BAD count(4)=0");
        lay("u17;l9;s0,10,99;p7;d0;d1;");
        calls("49*pass(20) pass(19)=999 strip(0,2)=99 push(0,0)=47");
        // At 17 in even YEARS, of which YEAR 1000 is the first; at 18 in the others.
        calls("behind(0,0)=99 behind(1,0)=99 behind(2,0)=98 behind(3,0)=98 behind(40,0)=79 count(4)=999 pass(1)=NO");
        // By a PUSH it is elsewhere, to either side.
        calls("worth(1,0)=99 worth(1,1)=99 worth(2,0)=0 worth(2,1)=99 worth(20,0)=0 worth(20,1)=99 count(4)=999");
        lay("u5;l5;s0,4,9;p1;");
        calls("49*pass(20) pass(18)=998 worth(2,0)=0 worth(2,1)=11 pass(1)=999 worth(1,0)=0 worth(1,1)=10");
        calls("worth(20,0)=0 worth(20,1)=29 behind(40,0)=9 pass(1)=NO");

        sentence("BEHIND: GOODS. BAD.");
        lay("u5;l5;s0,5,98;s0,5,0;p1;");
        calls("behind(1,0)=99 behind(40,0)=99 behind(1,1)=3 behind(2,1)=4 behind(40,1)=42 behind(0,2)=BAD");
        calls("behind(41,1)=BAD");
    }

    private static void worth() {
        sentence("WORTH for n (1 to 20) YEARS");
        lay("u5;l5;s0,4,0;p1;");
        calls("worth(0,0)=BAD worth(-1,1)=BAD worth(21,0)=BAD worth(1,0)=0 worth(1,1)=3 worth(2,1)=4 worth(20,0)=0");
        calls("worth(20,1)=22 worth(21,1)=BAD");

        sentence("none, or one PUSH now (as CHALK is)");
        lay("u5;l5;s0,4,9;p3;p1;");
        calls("worth(1,0)=10 worth(1,1)=10 chalk(1)=0 worth(1,0)=99 worth(1,1)=9 chalk(2)=1 worth(1,0)=0");
        calls("worth(1,1)=10");
        calls("chalk(9)=2 worth(1,0)=99 worth(1,1)=9 count(7)=9");
        lay("u5;l5;s0,5,9;p20;p1;");
        calls("chalk(9)=0 worth(1,0)=99 worth(1,1)=10 2*push(0,0) worth(1,1)=9");

        sentence("by which all GOODS of the STRIP are most behind these, of several the first (none ahead of all): which (99: none)");
        // Any PUSH would be as good as none.
        lay("u5;l5;s0,9,9;p1;");
        calls("worth(1,0)=99 worth(1,1)=9");
        // Whichever PUSH: the first; to the right ahead of to the left.
        lay("u5;s0,5,9;p1;p1;");
        calls("worth(1,0)=0 worth(1,1)=9");
        lay("u6;u5;s0,5,9;p1;p2;");
        calls("worth(1,0)=1 worth(1,1)=9");
        lay("u6;u5;u4;s0,5,9;p1;p2;p3;");
        calls("worth(1,0)=10 worth(1,1)=9");
        lay("u6;u5;u4;u7;s0,5,9;p1;p2;p3;p4;");
        calls("worth(1,0)=11 worth(1,1)=9");
        lay("u5;l5;s0,9,9;p1;p2;p3;p4;");
        calls("worth(1,0)=31 worth(1,1)=10");
        lay("u5;l5;s0,1,9;p1;p2;p3;p4;");
        calls("worth(1,0)=30 worth(1,1)=10");

        sentence("WORTH: which (what = 0; 10 times the PUSH, and 1, if left; 99), how much (1). BAD.");
        calls("worth(1,-1)=BAD worth(1,2)=BAD worth(20,-1)=BAD worth(20,2)=BAD");
        lay("u5;u5;s0,5,0;s0,6,0;p20;");
        calls("worth(20,0)=99 worth(20,1)=0");
    }

    private static void tells() {
        sentence("the more of both parts (the pair being AGAINST one another, or not) are fewest");
        // Of the LEANING one's two SHIFTS a PLAIN one is so at one; another at none; of the RICH one's three at one.
        lay("u20;s2,20,0;s0,30,0;s0,19,0;s0,20,0;p1;");
        calls("tells(0)=0 tells(1)=79 ask(0,0,0)=1 shifts(0)=2 tells(0)=300 tells(1)=1");
        // Of its SHIFTS 5 and 7 one at 14 is so at none, one at 13 at one.
        lay("u20;s2,15,0;s0,14,0;s0,13,0;p1;");
        calls("ask(0,0,0)=1 shifts(1)=45 tells(0)=200 tells(1)=1");
        lay("u20;l20;s1,20,0;s0,30,0;s2,21,0;p1;");
        calls("ask(0,0,0)=1 shifts(0)=3 tells(0)=200 tells(1)=2");
        // At all SHIFTS that are left the one is so, at none the other: the greater part is as great.
        lay("u20;l20;u50;s0,20,0;p1;");
        calls("ask(0,0,0)=1 shifts(0)=1 tells(0)=1 tells(1)=1 ask(0,0,1)=2 shifts(0)=0 tells(0)=NONE tells(1)=NONE");
        lay("u20;u20;l50;s2,20,0;p1;");
        calls("ask(0,0,0)=1 shifts(0)=2 tells(0)=1 tells(1)=2");

        sentence("of several the first (by that of the STRIP, UPPER ahead of LOWER, then that one)");
        lay("u20;u20;l20;l20;s0,20,0;s0,20,0;p1;");
        calls("tells(0)=0 tells(1)=80 ask(0,0,0)=1 tells(0)=1 tells(1)=1 ask(0,0,1)=2 tells(0)=10 ask(0,1,0)=3");
        calls("tells(0)=11");
        calls("ask(0,1,1)=4 tells(0)=100 ask(1,0,0)=5 tells(0)=101 ask(1,0,1)=6 tells(0)=110 tells(1)=1");
        lay("u60;u20;l60;l20;s0,10,0;s0,0,0;s1,20,0;s1,10,0;p1;");
        calls("tells(0)=201 tells(1)=78");
        lay("u20;l0;l0;l0;l0;l0;s0,60,0;s0,60,0;s0,60,0;s0,60,0;s0,60,0;s0,60,0;s0,40,0;p1;");
        // The six at 60 reach 20 alone; the last one, at 40, all of them.
        calls("tells(0)=0 tells(1)=80 5*ask(0,0,0) tells(0)=10 tells(1)=1");

        sentence("how many are in the greater part; none (no such SHIFT, no such pair).");
        lay("u20;s0,20,0;p1;");
        calls("tells(0)=0 tells(1)=80 ask(0,0,0)=1 tells(0)=NONE tells(1)=NONE shifts(0)=1");
        lay("u20;s0,20,0;s0,21,0;p1;");
        calls("ask(0,0,0)=1 tells(0)=100 tells(1)=1 ask(1,0,0)=2 shifts(0)=0 tells(0)=NONE tells(1)=NONE");
        lay("u20;u30;s0,20,0;p1;");
        calls("ask(0,0,0)=1 ask(0,0,1)=2 tells(0)=NONE tells(1)=NONE");
        lay("s0,20,0;p1;");
        calls("shifts(0)=81 tells(0)=NONE tells(1)=NONE");
        // Never AGAINST: all 81 are in the other part.
        lay("u60;s0,19,0;p1;");
        calls("tells(0)=0 tells(1)=81");
        lay("u60;l60;s0,19,0;s0,20,0;p1;");
        calls("tells(0)=100 tells(1)=80");
        lay("u0;s0,41,0;s0,40,0;p1;");
        calls("tells(0)=100 tells(1)=80");
        lay("u60;s1,19,0;p1;");
        calls("tells(0)=0 tells(1)=80");

        sentence("TELLS: which (what = 0), how many (1). NONE; BAD.");
        lay("u20;s0,20,0;p1;");
        calls("tells(-1)=BAD tells(2)=BAD ask(0,0,0)=1 tells(0)=NONE tells(-1)=BAD tells(2)=BAD");
        lay("u0;u0;u0;u0;u0;l0;l0;l0;l0;l0;l2;s0,60,0;s0,60,0;s0,60,0;s0,60,0;s0,60,0;s0,60,0;s0,42,0;p1;");
        calls("tells(0)=615 tells(1)=80");
    }

    // ---- slips, centuries

    private static void slips() {
        sentence("is given n (0 to 8) times, from how it stands, CHALK as it is");
        lay("u5;u13;u14;s0,5,0;p1;p2;");
        calls("ask(0,0,0)=1 slips(0,0,0,5,0)=1 slips(0,0,0,5,1)=1 slips(0,0,-1,5,0)=BAD slips(0,0,9,5,0)=BAD");
        calls("slips(0,0,1,5,0)=1 slips(0,0,1,5,1)=2 slips(0,0,8,5,0)=1 slips(0,0,8,5,1)=256 forget()=1");
        calls("ask(0,0,1)=1 slips(0,0,0,5,0)=0 slips(0,0,0,5,1)=1 slips(0,0,7,0,0)=0 slips(0,0,8,0,0)=1");
        calls("slips(0,0,8,0,1)=1");
        calls("slips(0,0,8,3,0)=5764801 slips(0,0,8,3,1)=100000000 slips(0,0,8,9,0)=1 slips(0,0,8,9,1)=100000000");
        calls("forget()=1");
        calls("ask(0,0,2)=1 slips(0,0,8,0,0)=0 slips(0,0,8,0,1)=1 slips(0,1,8,0,0)=0");
        calls("push(0,0)=41 slips(0,0,8,0,0)=1 slips(0,0,8,0,1)=1 push(0,0)=42 slips(0,0,8,0,0)=0 slips(0,0,7,0,0)=1");
        // To the left, and by the second PUSH.
        lay("u5;s0,9,0;p3;p2;");
        calls("ask(0,0,0)=1 slips(1,1,2,0,0)=1 slips(1,0,2,0,0)=0 slips(0,1,2,0,0)=0 slips(1,1,3,2,0)=48");
        calls("slips(1,1,3,2,1)=125");
        // At the end of the groove it stays, however many are given.
        lay("u60;s0,20,0;p20;");
        calls("ask(0,0,0)=1 slips(0,0,2,0,0)=1 slips(0,0,8,0,0)=1 slips(0,0,1,0,0)=0");

        sentence("each does nothing by x (0 to 10) of ten, for itself (CHALK stays)");
        lay("u6;s0,5,0;p1;p2;");
        calls("ask(0,0,0)=1 slips(0,0,1,-1,0)=BAD slips(0,0,1,11,0)=BAD slips(0,0,1,0,0)=1 slips(0,0,1,0,1)=1");
        calls("slips(0,0,1,10,0)=0 slips(0,0,1,10,1)=1 slips(0,0,1,1,0)=9 slips(0,0,1,1,1)=10 slips(0,0,1,9,0)=1");
        calls("slips(0,0,1,9,1)=10 slips(0,0,8,10,0)=0 slips(0,0,8,10,1)=1 slips(0,0,8,0,0)=0 slips(0,0,8,0,1)=1");
        // 1 and 1 by CHALK 1: the first that is done does nothing but take it away.
        calls("chalk(1)=0 slips(0,0,1,0,0)=0 slips(0,0,2,0,0)=1 slips(0,0,2,1,0)=81 slips(0,0,2,1,1)=100");
        calls("slips(0,0,3,1,0)=243 slips(0,0,3,1,1)=1000 count(7)=1 count(5)=40");
        // A SLOW one: what slips is no latest PUSH.
        lay("u6;s3,5,0;p1;");
        calls("push(0,0)=41 ask(0,0,0)=1 slips(0,0,0,5,0)=0 slips(0,0,1,5,0)=1 slips(0,0,1,5,1)=2 slips(0,0,1,10,0)=0");

        sentence("the chance that all that is ASKED is so then, in lowest terms");
        lay("u5;u6;s0,5,0;p1;");
        calls("slips(0,0,8,5,0)=1 slips(0,0,8,5,1)=1 slips(0,1,0,0,0)=1 slips(0,1,0,0,1)=1");
        calls("ask(0,0,0)=1 slips(0,0,1,4,0)=2 slips(0,0,1,4,1)=5 slips(0,0,2,5,0)=1 slips(0,0,2,5,1)=4");
        calls("slips(0,0,1,7,0)=7");
        calls("slips(0,0,1,7,1)=10 slips(0,0,2,0,0)=0 slips(0,0,2,0,1)=1 ask(0,0,1)=2 slips(0,0,4,5,0)=0");
        calls("slips(0,0,4,5,1)=1");

        sentence("SLIPS: above (part = 0), below (1). BAD.");
        calls("slips(0,0,1,5,-1)=BAD slips(0,0,1,5,2)=BAD slips(-1,0,1,5,0)=BAD slips(1,0,1,5,0)=BAD");
        calls("slips(0,-1,1,5,0)=BAD");
        calls("slips(0,2,1,5,0)=BAD slips(0,1,0,0,2)=BAD");
    }

    private static void century() {
        sentence("A CENTURY by z (0 to 9999) of n (1 to 60) from now on (nothing changes by it)");
        // By 0 first a PUSH to the right, by 9999 first a YEAR.
        lay("u5;l5;s0,5,9;p1;");
        calls("century(-1,1,0)=BAD century(10000,1,0)=BAD century(0,0,0)=BAD century(0,61,0)=BAD century(0,-1,0)=BAD");
        calls("century(0,1,0)=9 century(0,2,0)=9 century(9999,1,0)=10 century(9999,61,0)=BAD century(9999,0,0)=BAD");
        // Of its LINES, at 45, 16, 15, 5 and 16, it is that at 5 that weds.
        calls("century(9999,60,1)=2 count(4)=0 count(5)=40 count(8)=0 count(11)=0 strip(0,2)=9 land(0,0,1)=0");
        // By 9 the last of 60 is THE LINE at 8, ahead of which it is at 55, 44, 18 and 34.
        lay("u8;l8;s0,0,0;p1;");
        calls("century(9,59,1)=0 century(9,60,1)=2 century(9,61,1)=BAD count(8)=0");

        sentence("else a YEAR goes by; each if it can be");
        // By 4 and 9999 (7) and 3 (6) first a YEAR: there is none behind 999.
        lay("u5;l5;s0,5,9;p1;");
        calls("push(0,0)=41 49*pass(20) pass(18)=998 push(0,1)=40 century(3,1,0)=10 century(4,1,0)=10");
        calls("century(9999,1,0)=10");
        calls("push(0,0)=41 pass(1)=999 push(0,1)=40 century(3,1,0)=9 century(4,1,0)=9 century(9999,1,0)=9");
        calls("behind(1,0)=10");
        // By 26 two YEARS, of which the first alone can be, then THE LINE at 34.
        calls("century(26,2,0)=9");
        lay("u5;l5;s0,5,9;p1;");
        calls("century(26,1,0)=10 century(26,2,0)=11 push(0,0)=41 49*pass(20) pass(18)=998 push(0,1)=40");
        calls("century(26,2,0)=10");
        // THE LINE of 2, at 60, weds nobody; what comes behind goes on: a PUSH (0, 1890) to the right.
        lay("u60;l5;s0,5,9;p1;");
        calls("century(2,1,1)=0 century(2,1,0)=9 century(2,2,0)=9");

        sentence("A CENTURY: GOODS (what = 0), WED (1). BAD.");
        lay("u60;l60;u5;s0,5,9;s0,7,3;p1;");
        calls("century(2,1,-1)=BAD century(2,1,2)=BAD century(2,1,0)=12 century(2,1,1)=2 line(5)=2 century(2,1,1)=4");
        calls("count(8)=2");
        calls("line(60)=4 century(2,1,1)=4 century(3,1,0)=11");
    }

    private static void centuryByDraws() {
        sentence("if DRAW modulo 8 is 0 to 3, PUSH (DRAW by 8, cut) modulo as many as there are is given,"
                + " to the left, if (DRAW by 64, cut) is uneven");
        // 92: 0, 6944, right. 289: 0, 130, right. 21: 0, 7769, left. A YEAR is behind each.
        lay("u5;l5;s0,4,9;p1;");
        calls("century(92,2,0)=10 century(289,2,0)=10 century(21,2,0)=9");
        lay("u5;l5;s0,6,9;p1;");
        calls("century(92,2,0)=9 century(289,2,0)=9 century(21,2,0)=10");
        // 0: 1, 0, right. 20: 2, 2859, left. 144: 3, 6272, right.
        lay("u5;l5;s0,4,9;p1;");
        calls("century(0,2,0)=10 century(20,2,0)=9 century(144,2,0)=10");
        lay("u5;l5;s0,6,9;p1;");
        calls("century(0,2,0)=9 century(20,2,0)=10 century(144,2,0)=9");
        // 7769 modulo 2, 3, 4: 1, 2, 1. 6272 modulo 2, 3, 4: 0, 2, 0.
        lay("u5;l5;s0,7,9;p1;p2;");
        calls("century(21,2,0)=10");
        lay("u5;l5;s0,8,9;p1;p2;p3;");
        calls("century(21,2,0)=10");
        lay("u5;l5;s0,7,9;p1;p2;p3;p4;");
        calls("century(21,2,0)=10");
        lay("u5;l5;s0,2,9;p1;p2;p3;");
        calls("century(144,2,0)=10");

        sentence("if 4, CHALK is (DRAW by 8, cut) modulo 10");
        // 753: CHALK 0, PUSH 7991 to the right, a YEAR. 1790: CHALK 9, PUSH 5281 to the right, a YEAR.
        lay("u5;l5;s0,4,9;p1;");
        calls("chalk(5)=0 century(753,3,0)=10 count(7)=5");
        lay("u5;l5;s0,5,9;p9;");
        calls("century(1790,3,0)=10 century(753,3,0)=9");
        lay("u5;l5;s0,4,9;p10;");
        calls("century(1790,3,0)=10 century(753,3,0)=9");

        sentence("if 5, THE LINE is laid at (DRAW by 8, cut) modulo 61");
        // 5: a PUSH to the right, at 52. 2810: at 30, at 30.
        lay("u52;s0,51,9;p1;");
        calls("century(5,1,1)=0 century(5,2,1)=2");
        lay("u52;s0,52,9;p1;");
        calls("century(5,2,1)=0");
        lay("u30;u30;s0,30,9;s0,30,9;p1;");
        calls("century(2810,1,1)=2 century(2810,2,1)=4 line(30)=2 century(2810,1,1)=4 century(2810,2,1)=4 count(8)=2");
        // 851: at 0. 2: at 60.
        lay("u0;l0;s0,5,9;p1;");
        calls("century(851,1,1)=2 century(2,1,1)=0");
        lay("u60;l60;s0,5,9;p1;");
        calls("century(851,1,1)=0 century(2,1,1)=2");

        sentence("DRAW being (x times x) modulo 65521, x 7919 z, 6151 k and 1 together");
        // By 9999: a YEAR, CHALK 6, a PUSH (0, 846, left), CHALK 1, a YEAR; each seen in what it brings.
        lay("u5;l5;s0,5,9;p9;");
        calls("century(9999,1,0)=10 century(9999,2,0)=10 century(9999,4,0)=10 century(9999,5,0)=10");
        lay("u5;l5;s0,8,9;p9;");
        calls("century(9999,4,0)=9 century(9999,5,0)=10");
    }

    private static void kept() {
        sentence("KEPT is all as it stands, but what is ASKED and THE TEXT (these stay by back(),"
                + " behind which nothing can be UNDONE): 2 at most.");
        lay("u5;l5;s0,5,9;p3;p4;");
        calls("pass(2)=2 push(0,0)=43 chalk(7)=0 push(1,0)=43 pass(1)=3 keep()=1 ask(0,0,0)=1 write(117)=20");
        String text = look();
        calls("chalk(2)=6 push(0,1)=42 line(5)=2 pass(3)=6 ask(0,1,0)=2 write(49)=21 keep()=2 keep()=FULL count(12)=2");
        calls("push(0,1)=40 count(8)=2 back()=1 count(5)=42 count(6)=43 count(7)=1 count(8)=2 count(4)=6");
        calls("count(10)=2 count(13)=21");
        calls("count(11)=0 undo()=NO push(0,1)=40 back()=0 undo()=NO back()=NO forget()=2 ask(0,0,0)=1 wipe()=21");
        write("u5;l5;s0,5,9;p3;p4;u");
        // All is as it was, but that nothing can be UNDONE, nor is KEPT.
        due("look() behind back()", look(), text.replaceFirst(" 1 5 1 20 ", " 1 0 0 20 "));

        sentence("KEPT: how many. FULL.");
        fresh();
        calls("keep()=1 keep()=2 keep()=FULL keep()=FULL count(12)=2 back()=1 keep()=2 keep()=FULL back()=1");
        calls("back()=0 keep()=1");

        sentence("As KEPT last (it is KEPT no more then): how many are left; nothing is UNDONE then. NO.");
        fresh();
        calls("back()=NO push(1,0)=47 count(11)=1 back()=NO count(11)=1 keep()=1 push(1,0)=54 keep()=2 push(1,0)=61");
        calls("count(11)=3 keep()=FULL count(11)=3 back()=1 count(5)=54 count(11)=0 undo()=NO push(0,0)=55");
        calls("count(11)=1");
        calls("back()=0 count(5)=47 count(11)=0 undo()=NO back()=NO count(5)=47");
        // What is KEPT is left alone by what is UNDONE, and by what goes on.
        fresh();
        calls("push(1,0)=47 keep()=1 undo()=0 push(0,1)=39 pass(3)=3 count(12)=1 back()=0 count(5)=47 count(4)=0");
    }

    // ---- numbers that are none, refused calls

    /** Each number by itself least, most, and beyond, the others being in the middle. */
    private static void edges(String name, int... leastAndMost) {
        int n = leastAndMost.length / 2;
        for (int i = 0; i < n; i++) {
            int least = leastAndMost[2 * i];
            int most = leastAndMost[2 * i + 1];
            for (int number : new int[] {least, most, least - 1, most + 1, Integer.MIN_VALUE, Integer.MAX_VALUE}) {
                int[] numbers = new int[n];
                for (int j = 0; j < n; j++) {
                    numbers[j] = leastAndMost[2 * j];
                }
                numbers[i] = number;
                lay(SOME);
                boolean told = number >= least && number <= most;
                String ahead = look();
                int got = call(name, numbers);
                due(name + " being BAD, its number " + i + " being " + number, got == BAD, !told);
                if (!told) {
                    due("all behind " + name + ", its number " + i + " being " + number, look(), ahead);
                }
            }
        }
    }

    private static void edgesOfNumbers() {
        sentence("BAD: a number is none that is told (of lands, the STRIP, PUSHES such as there are; right 0, left 1).");
        edges("write", 32, 126);
        edges("land", 0, 1, 0, 1, 0, 2);
        edges("strip", 0, 3, 0, 4);
        edges("inches", 0, 2);
        edges("damp", 0, 99);
        edges("against", 0, 3);
        edges("push", 0, 2, 0, 1);
        edges("chalk", 0, 9);
        edges("pass", 1, 20);
        edges("line", -99, 99);
        edges("ask", 0, 3, 0, 1, 0, 1);
        edges("shifts", 0, 1);
        edges("most", 0, 1);
        edges("hut", 0, 1);
        edges("behind", 0, 40, 0, 3);
        edges("worth", 1, 20, 0, 1);
        edges("tells", 0, 1);
        edges("slips", 0, 2, 0, 1, 0, 8, 0, 10, 0, 1);
        edges("century", 0, 9999, 1, 60, 0, 1);
        edges("count", 0, 13);
        // Of either land there are others.
        lay(SOME);
        calls("land(0,2,0)=BAD land(1,2,0)=9 land(1,3,0)=BAD ask(0,0,2)=BAD ask(0,1,2)=1 ask(0,1,3)=BAD");

        sentence("By how much the office PUSHES. BAD.");
        calls("inches(-1)=BAD inches(0)=1 inches(2)=3 inches(3)=BAD");
        fresh();
        calls("inches(1)=7 inches(2)=BAD");
    }

    private static void firstInOrder() {
        sentence("Of several the first in this order, whatever the order at a call");
        // BAD ahead of FULL.
        lay(SOME);
        calls("200*write(59) write(59)=FULL write(31)=BAD write(127)=BAD");
        calls("6*ask(0,0,0) ask(0,0,0)=FULL ask(4,0,0)=BAD ask(0,2,0)=BAD ask(0,0,2)=BAD");
        // BAD ahead of NO.
        calls("49*pass(20) pass(20)=NO pass(21)=BAD pass(0)=BAD pass(19)=999 pass(1)=NO pass(0)=BAD pass(21)=BAD");
        calls("line(-99)=NO line(-100)=BAD line(99)=NO line(100)=BAD");
        // BAD ahead of NONE.
        lay("u5;l6;s0,5,0;p20;");
        calls("ask(0,0,0)=1 ask(0,1,0)=2 meeting(-1)=NONE meeting(-2)=BAD shifts(1)=NONE shifts(2)=BAD shifts(-1)=BAD");
        calls("tells(0)=NONE tells(1)=NONE tells(2)=BAD tells(-1)=BAD");
    }

    private static final String ACTS = "push(1,0) chalk(2) pass(3) line(9) keep() push(2,1) push(0,0) line(5) keep() pass(2)"
            + " ask(0,0,0) ask(1,1,1)";

    /** All that is seen of x now, and then of all that can be UNDONE and gone back to. */
    private static String lookThrough() {
        StringBuilder s = new StringBuilder(look());
        for (int i = 0; i < 2; i++) {
            s.append(x.undo()).append(' ').append(x.strip(0, 3)).append(' ').append(x.count(6)).append(' ')
                    .append(x.count(7)).append(' ').append(x.count(8)).append(' ').append(x.strip(0, 2)).append(' ');
        }
        s.append(x.back()).append(look()).append(x.undo()).append(x.back()).append(x.count(5)).append(x.shifts(0));
        return s.toString();
    }

    private static void changesNothing(String ahead, String row) {
        lay(SOME);
        calls(ACTS);
        calls(ahead);
        String want = lookThrough();
        lay(SOME);
        calls(ACTS);
        calls(ahead);
        calls(row);
        due("all behind " + row, lookThrough(), want);
    }

    private static void refusedChangesNothing() {
        sentence("nothing changes then.");
        changesNothing("count(0)", "push(3,0)=BAD push(0,2)=BAD chalk(10)=BAD pass(21)=BAD pass(0)=BAD line(100)=BAD");
        changesNothing("count(0)", "line(60)=NO line(-40)=NO keep()=FULL ask(4,0,0)=BAD write(31)=BAD write(127)=BAD");
        changesNothing("ask(0,0,0) ask(0,0,1) ask(0,1,1) ask(0,1,2)", "ask(1,0,0)=FULL ask(1,0,2)=BAD");
        changesNothing("write(120)", "lay()=NO lay()=NO fault()=58");
        changesNothing("wipe()", "lay()=NO");
        changesNothing("142*write(48)", "write(117)=FULL write(31)=BAD");
        changesNothing("8*undo()", "undo()=NO undo()=NO");
        changesNothing("back() back()", "back()=NO back()=NO");
        changesNothing("49*pass(20) pass(8)", "pass(10)=NO pass(20)=NO");
    }

    private static void askedChangesNothing() {
        sentence("nothing changes by it");
        changesNothing("count(0)", "century(5,60,0) century(9999,60,1) century(2,1,1) century(94,60,0)");

        sentence("what years bring, which push is worth most");
        changesNothing("count(0)", "behind(40,0) behind(1,3) worth(20,0) worth(1,1) meeting(-1) meeting(0) meeting(9)");
        changesNothing("count(0)", "shifts(0) shifts(1) most(0) most(1) hut(0) hut(1) tells(0) tells(1)");
        changesNothing("count(0)", "slips(2,0,8,3,0) slips(0,1,8,0,1) fault() count(9) against(1) damp(5) inches(1)");
    }

    private static void counts() {
        sentence("11 that can be UNDONE, 12 KEPT, 13 letters of THE TEXT. BAD.");
        lay("u5;u9;l5;s0,5,9;s1,8,9;p1;p2;p3;d0;");
        calls("count(-1)=BAD count(14)=BAD count(0)=2 count(1)=1 count(2)=2 count(3)=3 count(4)=0 count(5)=40");
        calls("count(6)=40");
        calls("count(7)=0 count(8)=0 count(9)=3 count(10)=0 count(11)=0 count(12)=0 count(13)=35");
        calls("push(2,0)=43 push(1,1)=41 chalk(6)=0 pass(4)=4 ask(0,0,0)=1 keep()=1 keep()=2 count(4)=4 count(5)=41");
        calls("count(6)=43 count(7)=6 count(8)=0 count(9)=1 count(10)=1 count(11)=4 count(12)=2 wipe()=35 count(13)=0");
    }
}
