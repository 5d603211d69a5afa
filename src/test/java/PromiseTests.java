import java.util.function.LongSupplier;

/** The document's promises one by one: ordinary inputs, the edges that it names, and wrong inputs. */
public final class PromiseTests {
    private static final String STATE = "IllegalStateException";
    private static final String ARGUMENT = "IllegalArgumentException";
    private static final String INDEX = "ArrayIndexOutOfBoundsException";

    private static int promise = 0;
    private static int wrong = 0;

    public static void main(String[] args) {
        promise1NewObject();
        promise2Unit();
        promise3Read();
        promise3Limits();
        promise4Write();
        promise4Parentheses();
        promise5Edition();
        promise6Board();
        promise7Fault();
        promise8ClearFaults();
        promise9Face();
        promise10Run();
        promise10Factors();
        promise10Longs();
        promise10LongRows();
        promise11Walk();
        promise12Why();
        promise13Open();
        promise14Worst();
        promise15Raise();
        promise16Appeal();
        promise17Counted();
        promise18Machine();
        System.out.println(wrong == 0 ? "all answers are as due" : wrong + " answers are not as due");
        if (wrong != 0) {
            System.exit(1);
        }
    }

    private static void report(String what, Object got, Object want) {
        if (!got.equals(want)) {
            wrong++;
            System.out.println("promise " + promise + ": " + what + " answered " + got + ", due is " + want);
        }
    }

    private static void due(String what, long got, long want) {
        report(what, got, want);
    }

    private static void dueText(String what, String got, String want) {
        report(what, got, want);
    }

    private static void dueThrow(String what, String want, LongSupplier call) {
        String got;
        try {
            got = "" + call.getAsLong();
        } catch (RuntimeException e) {
            got = e.getClass().getSimpleName();
        }
        report(what, got, want);
    }

    private static int read(GradeTexts g, String text) {
        for (int i = 0; i < text.length(); i++) {
            if (!g.unit(text.charAt(i))) {
                wrong++;
                System.out.println("promise " + promise + ": no room for character " + i + " of " + text);
            }
        }
        return g.read();
    }

    private static GradeTexts reading(String text) {
        GradeTexts g = new GradeTexts();
        int rules = read(g, text);
        if (rules < 1) {
            wrong++;
            System.out.println("promise " + promise + ": " + text + " was read as " + rules);
        }
        return g;
    }

    private static String printed(GradeTexts g) {
        StringBuilder made = new StringBuilder();
        for (int i = 0; i <= 300; i++) {
            int unit = g.write(i);
            if (unit == GradeTexts.NONE) {
                break;
            }
            made.append((char) unit);
        }
        return made.toString();
    }

    /** Graded by run and by walk, which must be the same. */
    private static void dueGrade(String text, long want) {
        GradeTexts g = reading(text);
        boardWithFaults(g);
        due("walk of " + text, g.walk(0), want);
        due("run of " + text, g.run(0), want);
    }

    /** A text of one rule that is open. */
    private static void dueOpen(String text, int condition, int cause) {
        GradeTexts g = reading(text);
        boardWithFaults(g);
        due("walk of " + text, g.walk(0), GradeTexts.NONE);
        due("run of " + text, g.run(0), GradeTexts.NONE);
        dueThrow("open condition of " + text, "" + condition, () -> g.open(0, 1));
        dueThrow("open cause of " + text, "" + cause, () -> g.open(0, 2));
        dueThrow("a second open rule of " + text, INDEX, () -> g.open(1, 0));
    }

    /** Kind 0 three times, kind 1 once; face 0 has three, face 1 one. */
    private static void boardWithFaults(GradeTexts g) {
        g.board(100, 20, 5);
        g.fault(0, 0, 10, 2, 5, 4);
        g.fault(1, 0, 30, 10, 6, 5);
        g.fault(0, 1, 50, 0, 20, 3);
        g.fault(0, 0, 12, 9, 1, 7);
    }

    private static String times(int n, String part) {
        return part.repeat(n);
    }

    private static void promise1NewObject() {
        promise = 1;
        GradeTexts g = new GradeTexts();
        due("face(0)", g.face(0), 0);
        due("face(1)", g.face(1), 0);
        due("read()", g.read(), -1);
        dueThrow("write(0)", STATE, () -> g.write(0));
        dueThrow("run(0)", STATE, () -> g.run(0));
        dueThrow("walk(0)", STATE, () -> g.walk(0));
        dueThrow("edition(0)", STATE, () -> g.edition(0));
        dueThrow("why(0, 0)", STATE, () -> g.why(0, 0));
        dueThrow("open(0, 0)", INDEX, () -> g.open(0, 0));
        dueThrow("raise(0, 0)", STATE, () -> g.raise(0, 0));
        for (int grade = -1; grade < 10; grade++) {
            due("counted", g.counted(grade), 0);
        }
        due("worst", g.worst(0, 100, 0), 0);
        GradeTexts other = reading("1:l=0,w=0,t=0,n0=0,e0=0,f0+f1=0");
        due("a board of 0", other.run(0), 1);
        due("NONE", GradeTexts.NONE, -1);
        due("DIVISION", GradeTexts.DIVISION, 1);
        due("FACE", GradeTexts.FACE, 2);
    }

    private static void promise2Unit() {
        promise = 2;
        GradeTexts g = new GradeTexts();
        int[] refused = {32, 127, 0, -1, 49 + 65536, 49 + 256, Integer.MIN_VALUE, Integer.MAX_VALUE};
        for (int u : refused) {
            report("unit(" + u + ")", g.unit(u), false);
        }
        due("read() of nothing", g.read(), -1);
        report("unit(33)", g.unit(33), true);
        report("unit(126)", g.unit(126), true);
        due("read() of !~", g.read(), -1);
        for (int i = 0; i < 300; i++) {
            report("unit " + i, g.unit(i == 0 ? '1' : i == 1 ? ':' : '-'), true);
        }
        report("unit 300", g.unit('-'), false);
        due("read() of 300", g.read(), -301);
        report("unit behind read()", g.unit('1'), true);
    }

    private static void dueRead(String text, int want) {
        due("read() of " + text, read(new GradeTexts(), text), want);
    }

    private static void promise3Read() {
        promise = 3;
        dueRead("0:", 1);
        dueRead("9:;8:;7:", 3);
        dueRead("1:n7<a6,s5>e4,l=w,t!3", 1);
        dueRead("1:c0c1ff--1=-(-1)", 1);
        dueRead("1:((((((((1))))))))=((((((((1))))))))", 1);
        dueRead("a:", -1);
        dueRead(";", -1);
        dueRead("12", -2);
        dueRead("1;", -2);
        dueRead("1:,", -3);
        dueRead("1::", -3);
        dueRead("1:;", -4);
        dueRead("1:;:", -4);
        dueRead("1:1=1,;2:", -7);
        dueRead("1:1=1;;", -7);
        dueRead("1:n8=0", -4);
        dueRead("1:c8", -4);
        dueRead("1:c", -4);
        dueRead("1:c1", -5);
        dueRead("1:c1=", -5);
        dueRead("1:f", -4);
        dueRead("1:f=1", -4);
        dueRead("1:-", -4);
        dueRead("1:1+", -5);
        dueRead("1:1+*2", -5);
        dueRead("1:+1=1", -3);
        dueRead("1:()=1", -4);
        dueRead("1:(1", -5);
        dueRead("1:(1,", -5);
        dueRead("1:(1;", -5);
        dueRead("1:1,", -4);
        dueRead("1:1;", -4);
        dueRead("1:1=", -5);
        dueRead("1:1=;2:", -5);
        dueRead("1:1=1+", -7);
        dueRead("1:1=1,2", -8);
        dueRead("1:1=2)", -6);
        dueRead("1:1=2<3", -6);
        dueRead("1:ll=1", -4);
        dueRead("1:n00=1", -5);
        dueRead("1:2l=1", -4);
        dueRead("1:1234567=0", -9);
        dueRead("1:0000001=0", -9);
        dueRead("1:L=1", -3);
        GradeTexts g = reading("4:");
        due("a wrong text", read(g, "5:1"), -4);
        dueText("the rules before stay", printed(g), "4:");
        due("they act", g.run(0), 4);
        due("the text is empty", read(g, "6:"), 1);
        due("the new ones act", g.run(0), 6);
    }

    private static void promise3Limits() {
        dueRead(times(11, "1:;") + "1:", 12);
        dueRead(times(12, "1:;") + "1:", -1 - (12 * 3 - 1));
        dueRead("1:" + times(5, "1=1,") + "1=1", 1);
        dueRead("1:" + times(6, "1=1,") + "1=1", -1 - (2 + 23));
        dueRead("1:" + times(5, "1=1,") + "1=1;2:" + times(5, "1=1,") + "1=1", 2);
        dueRead("1:((((((((1))))))))+(((((((((1", -1 - (2 + 17 + 1 + 8));
        dueRead("1:" + times(8, "-(") + "1" + times(8, ")") + "=1", 1);
        dueRead("1:" + times(9, "c0("), -1 - (2 + 8 * 3 + 2));
        dueRead("1:" + times(295, "-") + "1=1", 1);
        dueRead("1:" + times(298, "("), -11);
    }

    private static void duePrinted(String text, String want) {
        dueText("printed " + text, printed(reading(text)), want);
        dueText("printed again " + want, printed(reading(want)), want);
    }

    private static void promise4Write() {
        promise = 4;
        GradeTexts g = reading("1:l<2;3:");
        due("write(0)", g.write(0), '1');
        due("write(4)", g.write(4), '2');
        due("write(7)", g.write(7), ':');
        due("write(8)", g.write(8), GradeTexts.NONE);
        due("write of the greatest int", g.write(Integer.MAX_VALUE), GradeTexts.NONE);
        dueThrow("write(-1)", ARGUMENT, () -> g.write(-1));
        dueThrow("write(-1) of nothing", STATE, () -> new GradeTexts().write(-1));
        g.edition(1);
        read(g, "5:");
        dueText("the rules that were read last", printed(g), "5:");
        duePrinted("0:007=000,0=000100", "0:7=0,0=100");
        duePrinted("1:c0007=f00", "1:c07=f0");
        duePrinted("9:;8:l=1,w=2;7:", "9:;8:l=1,w=2;7:");
    }

    private static void promise4Parentheses() {
        duePrinted("1:(l)=((w))", "1:l=w");
        duePrinted("1:(l+w)=(l*w)", "1:l+w=l*w");
        duePrinted("1:(l+w)+t=(l-w)-t", "1:l+w+t=l-w-t");
        duePrinted("1:l+(w+t)=l+(w-t)", "1:l+(w+t)=l+(w-t)");
        duePrinted("1:l-(w+t)=l-((w-t))", "1:l-(w+t)=l-(w-t)");
        duePrinted("1:l+(w*t)=l-(w/t)", "1:l+w*t=l-w/t");
        duePrinted("1:(l*w)*t=(l/w)/t", "1:l*w*t=l/w/t");
        duePrinted("1:l*(w*t)=l/(w/t)", "1:l*(w*t)=l/(w/t)");
        duePrinted("1:(l+w)*t=l/(w-t)", "1:(l+w)*t=l/(w-t)");
        duePrinted("1:(l*w)+(t/2)=(l+1)", "1:l*w+t/2=l+1");
        duePrinted("1:-(l)=-(-(l))", "1:-l=--l");
        duePrinted("1:-(l+w)=-(l*w)", "1:-(l+w)=-(l*w)");
        duePrinted("1:(-l)*w=l*(-w)", "1:-l*w=l*-w");
        duePrinted("1:(-l)-(-w)=l-(-(w))", "1:-l--w=l--w");
        duePrinted("1:c0(5)=c0(n1)", "1:c05=c0n1");
        duePrinted("1:c0(l+1)=c0(l/2)", "1:c0(l+1)=c0(l/2)");
        duePrinted("1:f(1)=f(l-w)", "1:f1=f(l-w)");
        duePrinted("1:f(l*w)=f((0))", "1:f(l*w)=f0");
        duePrinted("1:l*((w+t))=((l+w))*t", "1:l*(w+t)=(l+w)*t");
        duePrinted("1:((l*w)+t)*2=2*((l*w))", "1:(l*w+t)*2=2*(l*w)");
        duePrinted("1:((l+w)*t)*2=((l+w)+t)", "1:(l+w)*t*2=l+w+t");
        duePrinted("1:(((l+w)))-(((t)))=((l-(w-t)))", "1:l+w-t=l-(w-t)");
        duePrinted("1:l+((w+t)*2)=l+((w*t)*2)", "1:l+(w+t)*2=l+w*t*2");
        duePrinted("1:c0(c1(l))*(f(0))=0", "1:c0c1l*f0=0");
    }

    private static void promise5Edition() {
        promise = 5;
        GradeTexts g = new GradeTexts();
        dueThrow("edition(-1) of nothing", STATE, () -> g.edition(-1));
        read(g, "1:");
        dueThrow("edition(-1)", ARGUMENT, () -> g.edition(-1));
        due("edition(0)", g.edition(0), 1);
        dueThrow("edition(0) again", ARGUMENT, () -> g.edition(0));
        read(g, "2:");
        due("edition(10)", g.edition(10), 2);
        dueThrow("edition(9)", ARGUMENT, () -> g.edition(9));
        dueThrow("edition(10) again", ARGUMENT, () -> g.edition(10));
        read(g, "3:");
        due("edition(11)", g.edition(11), 3);
        read(g, "4:");
        due("day 11 is of the third", g.run(11), 3);
        due("edition of the greatest day", g.edition(Long.MAX_VALUE), 4);
        dueThrow("a fifth", STATE, () -> g.edition(-1));
        read(g, "5:");
        due("day 0", g.run(0), 1);
        due("day 9", g.run(9), 1);
        due("day 10", g.run(10), 2);
        due("day 11", g.run(11), 3);
        due("day before the greatest", g.run(Long.MAX_VALUE - 1), 3);
        due("the greatest day", g.run(Long.MAX_VALUE), 4);
        due("walk on day 10", g.walk(10), 2);
        due("day -1: what was read last", g.run(-1), 5);
        due("walk on day -1", g.walk(-1), 5);
        read(g, "6:x");
        due("day -1 behind a wrong text", g.run(-1), 5);
    }

    private static void promise6Board() {
        promise = 6;
        GradeTexts g = reading("1:l=1000*1000,w=0,t=7,n0=1");
        g.fault(0, 0, 1, 1, 1, 1);
        g.board(1000000, 0, 7);
        due("the board, its faults stay", g.run(0), 1);
        int[][] refused = {{-1, 0, 0}, {0, -1, 0}, {0, 0, -1}, {1000001, 0, 0}, {0, 1000001, 0}, {0, 0, 1000001}};
        for (int[] r : refused) {
            dueThrow("board" + r[0] + "," + r[1] + "," + r[2], ARGUMENT, () -> {
                g.board(r[0], r[1], r[2]);
                return 0;
            });
        }
        due("nothing was changed", g.run(0), 1);
        g.board(0, 1000000, 1000000);
        due("another board", g.run(0), GradeTexts.NONE);
    }

    private static void promise7Fault() {
        promise = 7;
        GradeTexts g = new GradeTexts();
        due("fault", g.fault(0, 0, 0, 0, 0, 0), 1);
        due("fault", g.fault(1, 7, 1000000, 1000000, 1000000, 1000000), 2);
        dueThrow("face 2", INDEX, () -> g.fault(2, 9, 0, 0, 0, 0));
        dueThrow("face -1", INDEX, () -> g.fault(-1, 0, 0, 0, 0, 0));
        int[][] refused = {{-1, 0, 0, 0, 0}, {8, 0, 0, 0, 0}, {0, -1, 0, 0, 0}, {0, 1000001, 0, 0, 0}, {0, 0, -1, 0, 0},
            {0, 0, 1000001, 0, 0}, {0, 0, 0, -1, 0}, {0, 0, 0, 1000001, 0}, {0, 0, 0, 0, -1}, {0, 0, 0, 0, 1000001}};
        for (int[] r : refused) {
            dueThrow("a wrong fault", ARGUMENT, () -> g.fault(0, r[0], r[1], r[2], r[3], r[4]));
        }
        for (int i = 3; i <= 10; i++) {
            due("fault", g.fault(0, 1, i, 0, 1, 1), i);
        }
        dueThrow("an eleventh", STATE, () -> g.fault(0, 0, 0, 0, 0, 0));
        dueThrow("an eleventh, wrong", STATE, () -> g.fault(0, -1, 0, 0, 0, 0));
        dueThrow("an eleventh on face 2", INDEX, () -> g.fault(2, -1, 0, 0, 0, 0));
        due("ten", g.face(0) + g.face(1), 10);
    }

    private static void promise8ClearFaults() {
        promise = 8;
        GradeTexts g = reading("1:n0+n1+n2=0,l=100;2:");
        boardWithFaults(g);
        due("with faults", g.run(0), 2);
        g.clearFaults();
        due("the board stays", g.run(0), 1);
        due("face(0)", g.face(0), 0);
        due("worst", g.worst(0, 100, 1), 0);
        due("there is room again", g.fault(0, 2, 0, 0, 0, 0), 1);
        due("a fault of kind 0 again", g.fault(1, 0, 10, 0, 2, 3), 2);
        due("worst of the new ones alone", g.worst(0, 100, 1), 6);
        due("face(0) of the new ones alone", g.face(0), 1);
        due("graded by the new ones alone", g.run(0), 2);
        dueRaise(g, 1, 0, 1);
    }

    private static void promise9Face() {
        promise = 9;
        GradeTexts g = new GradeTexts();
        boardWithFaults(g);
        due("face(0)", g.face(0), 3);
        due("face(1)", g.face(1), 1);
        dueThrow("face(2)", INDEX, () -> g.face(2));
        dueThrow("face(-1)", INDEX, () -> g.face(-1));
    }

    private static void promise10Run() {
        promise = 10;
        dueGrade("1:1=2;2:1=1,2=3;3:1<2,2>1,1=1,1!2;4:", 3);
        dueGrade("1:1<1;2:1>1;3:1!1;4:1=2;5:2<1;6:1>2", GradeTexts.NONE);
        dueGrade("1:1/0=1;2:", 2);
        dueGrade("1:1=2,1/0=1;2:", 2);
        dueGrade("0:", 0);
        GradeTexts g = reading("1:l=3;2:l=4");
        g.run(0);
        g.board(4, 0, 0);
        due("the board of now", g.run(0), 2);
    }

    private static void promise10Factors() {
        dueGrade("1:l=100,w=20,t=5", 1);
        dueGrade("1:n0=3,n1=1,n2=0", 1);
        dueGrade("1:a0=20+30+7,a1=60,a2=0", 1);
        dueGrade("1:s0=7,s1=20,s2=0", 1);
        dueGrade("1:e0=2,e1=0,e2=w", 1);
        dueGrade("1:f0=3,f1=1", 1);
        dueGrade("1:l=1;1:w!20;1:t>5;1:n0!3;1:a0<57;1:s0>7;1:e0=1;1:e2!w;1:f0=2;1:c03=1;2:n0=3", 2);
        dueGrade("1:c02=1,c03=2,c020=2,c021=3,c00=0,c0-5=0", 1);
        dueGrade("1:c0n0=2,c0(l/2)=3,c2l=0", 1);
        dueGrade("1:2+3*4=14,2*3+4=10,10-3-2=5,100/5/2=10,7-2*3=1", 1);
        dueGrade("1:10-(3-2)=9,100/(5/2)=50,2*(3+4)=14,-2*3=-6", 1);
        dueGrade("1:7/2=3,-7/2=-3,7/-2=-3,-7/-2=3,--1=1,-(1+2)=-3", 1);
        dueGrade("1:100/5*2=40,100*5/2=250,2-3+4=3", 1);
        GradeTexts g = reading("1:e0=-3;2:e0=10");
        g.board(10, 10, 10);
        due("WIDTH without a fault", g.run(0), 2);
        g.fault(0, 0, 0, 6, 1, 7);
        due("a fault beyond the edge", g.run(0), 1);
    }

    private static void promise10Longs() {
        dueGrade("1:999999*999999=999998*1000*1000+1", 1);
        dueGrade("1:65536*65536*65536*65536=0", 1);
        dueGrade("1:65536*65536*65536*32768<0", 1);
        dueGrade("1:65536*65536*65536*32768-1>0", 1);
        dueGrade("1:65536*65536*65536*32768/-1=65536*65536*65536*32768", 1);
        dueGrade("1:-(65536*65536*65536*32768)<0", 1);
        dueGrade("1:f(65536*65536)=3,f(65536*65536+1)=1", 1);
        dueGrade("1:c0(65536*65536)=3,c0(65536*65536*65536*32768-1)=3,c0(65536*65536*65536*32768)=0", 1);
        GradeTexts g = reading("1:a0=1000*1000*1000*2000,s0=999999+1");
        g.fault(0, 0, 0, 0, 1000000 / 2, 1000000);
        g.fault(0, 0, 0, 0, 1000000, 1000000);
        g.fault(0, 0, 0, 0, 1000000 / 2, 1000000);
        due("areas are longs", g.run(0), 1);
    }

    /** As long as texts can be, and as deep. */
    private static void promise10LongRows() {
        dueGrade("1:" + times(294, "-") + "1=1", 1);
        dueGrade("1:" + times(293, "-") + "1=-1", 1);
        dueGrade("1:" + times(147, "+1").substring(1) + "=147", 1);
        dueGrade("1:" + times(148, "*1").substring(1) + "=1", 1);
        dueGrade("1:" + times(140, "c0") + "3=0", GradeTexts.NONE);
        dueGrade("1:1+1*(1+1*(1+1*(1+1*(1+1*(1+1*(1+1*(1+1*(1+1*2))))))))=11", 1);
        dueGrade("1:1=1+1*(1+1*(1+1*(1+1*(1+1*(1+1*(1+1*(1+1*(1+1*-2))))))))", GradeTexts.NONE);
        dueGrade("1:7=1+1*(1+1*(1+1*(1+1*(1+1*(1+1*(1+1*(1+1*(1+1*-2))))))))", 1);
        dueGrade("1:" + times(8, "-(") + "1+1" + times(8, ")") + "=2", 1);
    }

    private static void promise11Walk() {
        promise = 11;
        GradeTexts g = reading("1:1/0=0;2:l=1;3:l=2,w=3");
        g.board(2, 3, 0);
        due("run", g.run(0), 3);
        due("held", g.why(3, 0), 2);
        due("counted", g.counted(3), 1);
        read(g, "4:1=2;5:f7=0;3:;6:");
        due("walk", g.walk(0), 3);
        due("not counted", g.counted(3), 1);
        due("why stays", g.why(3, 0), 2);
        due("open stays", g.open(0, 2), GradeTexts.DIVISION);
        due("why of rules that were walked", g.why(4, 0), GradeTexts.NONE);
        GradeTexts other = reading("1:");
        due("walk alone", other.walk(Long.MIN_VALUE), 1);
        dueThrow("why behind a walk alone", STATE, () -> other.why(1, 0));
        dueThrow("raise behind a walk alone", STATE, () -> other.raise(1, 0));
        dueThrow("open behind a walk alone", INDEX, () -> other.open(0, 0));
        due("counted behind a walk alone", other.counted(1), 0);
    }

    private static void promise12Why() {
        promise = 12;
        GradeTexts g = reading("1:1=1,2=2,3=4,4=4;2:1=2;1:1=1,f5=0;1:;1:1=1;2:");
        dueThrow("why(-1, -1) before a run", STATE, () -> g.why(-1, -1));
        due("run", g.run(0), 1);
        due("why(1, 0)", g.why(1, 0), 2);
        due("why(1, 1): open", g.why(1, 1), 1);
        due("why(1, 2): without conditions", g.why(1, 2), 0);
        due("why(1, 3): run() did not come to it", g.why(1, 3), GradeTexts.NONE);
        due("why(1, 4)", g.why(1, 4), GradeTexts.NONE);
        due("why(2, 0)", g.why(2, 0), 0);
        due("why(2, 1)", g.why(2, 1), GradeTexts.NONE);
        due("why(3, 0)", g.why(3, 0), GradeTexts.NONE);
        due("why(9, greatest)", g.why(9, Integer.MAX_VALUE), GradeTexts.NONE);
        dueThrow("why(-1, 0)", ARGUMENT, () -> g.why(-1, 0));
        dueThrow("why(10, 0)", ARGUMENT, () -> g.why(10, 0));
        dueThrow("why(0, -1)", ARGUMENT, () -> g.why(0, -1));
        read(g, "3:1=1,1=1");
        due("the rules of the run stay", g.why(1, 0), 2);
        due("not those that were read since", g.why(3, 0), GradeTexts.NONE);
        g.run(0);
        due("a new run", g.why(3, 0), 2);
        due("the run before is gone", g.why(1, 0), GradeTexts.NONE);
    }

    private static void promise13Open() {
        promise = 13;
        dueOpen("1:1/0=1", 0, GradeTexts.DIVISION);
        dueOpen("1:f2=1", 0, GradeTexts.FACE);
        dueOpen("1:f-1=1", 0, GradeTexts.FACE);
        dueOpen("1:1=1,2=2,1=1/n7", 2, GradeTexts.DIVISION);
        dueOpen("1:1/f2=1", 0, GradeTexts.FACE);
        dueOpen("1:f(1/0)=1", 0, GradeTexts.DIVISION);
        dueOpen("1:1/0=f2", 0, GradeTexts.DIVISION);
        dueOpen("1:f2*(1/0)=1", 0, GradeTexts.FACE);
        dueOpen("1:(1/0)*f2=1", 0, GradeTexts.DIVISION);
        dueOpen("1:0*(1/0)=0", 0, GradeTexts.DIVISION);
        dueOpen("1:c0(1/0)=0", 0, GradeTexts.DIVISION);
        dueOpen("1:ff0=0", 0, GradeTexts.FACE);
        dueOpen("1:f(65536*65536+2)=0", 0, GradeTexts.FACE);
        dueOpen("1:f(65536*65535)=0", 0, GradeTexts.FACE);
        dueGrade("1:1=2,1/0=0;2:1=1;3:1/0=0", 2);
        GradeTexts g = reading("1:1=2;2:1=1,1/0=0;3:1=2,f9=0;4:f9=0;5:;6:1/0=0");
        due("run", g.run(0), 5);
        int[][] want = {{1, 1, GradeTexts.DIVISION}, {3, 0, GradeTexts.FACE}};
        for (int k = 0; k < 2; k++) {
            for (int what = 0; what < 3; what++) {
                due("open(" + k + ", " + what + ")", g.open(k, what), want[k][what]);
            }
        }
        dueThrow("open(2, 0)", INDEX, () -> g.open(2, 0));
        dueThrow("open(-1, 0)", INDEX, () -> g.open(-1, 0));
        dueThrow("open(0, 3)", ARGUMENT, () -> g.open(0, 3));
        dueThrow("open(0, -1)", ARGUMENT, () -> g.open(0, -1));
        dueThrow("open(2, 3)", INDEX, () -> g.open(2, 3));
        read(g, "1:");
        due("open stays behind read()", g.open(1, 0), 3);
        g.raise(1, 0);
        due("open stays behind raise()", g.open(1, 0), 3);
        g.run(0);
        dueThrow("a run without open rules", INDEX, () -> g.open(0, 0));
        read(g, times(11, "1:1/0=0;") + "2:1/0=0");
        g.run(0);
        due("twelve open rules", g.open(11, 0), 11);
    }

    private static void promise14Worst() {
        promise = 14;
        GradeTexts g = new GradeTexts();
        boardWithFaults(g);
        due("worst(0, 1, 0)", g.worst(0, 1, 0), 1);
        due("worst(0, 1, 1)", g.worst(0, 1, 1), 30);
        due("worst(0, 2, 0): the end is not in it", g.worst(0, 2, 0), 1);
        due("worst(0, 3, 0)", g.worst(0, 3, 0), 2);
        due("worst(0, 3, 1)", g.worst(0, 3, 1), 30);
        due("worst(0, 19, 1)", g.worst(0, 19, 1), 37);
        due("worst(0, 20, 0)", g.worst(0, 20, 0), 2);
        due("worst(0, 21, 0)", g.worst(0, 21, 0), 3);
        due("worst(0, 21, 1)", g.worst(0, 21, 1), 57);
        due("worst(0, greatest, 1)", g.worst(0, Integer.MAX_VALUE, 1), 57);
        due("worst(0, 0, 0)", g.worst(0, 0, 0), 0);
        due("worst(0, least, 1)", g.worst(0, Integer.MIN_VALUE, 1), 0);
        due("worst(7, 10, 0)", g.worst(7, 10, 0), 0);
        dueThrow("kind -1", ARGUMENT, () -> g.worst(-1, 1, 0));
        dueThrow("kind 8", ARGUMENT, () -> g.worst(8, 1, 0));
        dueThrow("part -1", ARGUMENT, () -> g.worst(0, 1, -1));
        dueThrow("part 2", ARGUMENT, () -> g.worst(0, 1, 2));
        g.fault(0, 5, 1000000, 0, 1000000, 1000000);
        g.fault(1, 5, 1000000, 0, 1000000, 1000000);
        due("great areas", g.worst(5, 1, 1), 2000000000000L);
        due("two at one place", g.worst(5, 1, 0), 2);
    }

    private static void dueRaise(GradeTexts g, int grade, int... want) {
        for (int k = 0; k < want.length; k++) {
            due("raise(" + grade + ", " + k + ")", g.raise(grade, k), want[k]);
        }
        due("raise(" + grade + ") behind the last", g.raise(grade, want.length), GradeTexts.NONE);
    }

    private static void promise15Raise() {
        promise = 15;
        GradeTexts g = reading("1:n0<2,s1<10;2:a0<50;3:n0<3;4:1=2;5:");
        boardWithFaults(g);
        dueThrow("raise(-1, -1) before a run", STATE, () -> g.raise(-1, -1));
        due("run", g.run(0), 5);
        dueRaise(g, 1, 0, 1, 2);
        dueRaise(g, 2, 0);
        dueRaise(g, 3, 3);
        dueRaise(g, 4);
        dueRaise(g, 5);
        dueRaise(g, 9);
        due("raise(1, greatest)", g.raise(1, Integer.MAX_VALUE), GradeTexts.NONE);
        dueThrow("raise(10, 0)", ARGUMENT, () -> g.raise(10, 0));
        dueThrow("raise(-1, 0)", ARGUMENT, () -> g.raise(-1, 0));
        dueThrow("raise(1, -1)", ARGUMENT, () -> g.raise(1, -1));
        due("not counted", g.counted(1), 0);
        due("why stays", g.why(1, 0), 0);
        g.fault(1, 0, 90, 0, 1, 1);
        dueRaise(g, 1, 0, 1, 2, 3);
        g.clearFaults();
        dueRaise(g, 1);
        raiseByTheEditionOfTheRun();
        raiseOfAllTen();
    }

    private static void raiseByTheEditionOfTheRun() {
        GradeTexts g = reading("1:n0=0;2:");
        g.edition(5);
        read(g, "1:n0=0,n1=0;2:");
        g.edition(10);
        g.fault(0, 1, 0, 0, 1, 1);
        g.fault(0, 0, 0, 0, 1, 1);
        g.run(7);
        dueRaise(g, 1, 1);
        g.walk(10);
        dueRaise(g, 1, 1);
        g.run(10);
        dueRaise(g, 1, 0, 1);
        read(g, "1:f0=1;2:");
        dueRaise(g, 1, 0, 1);
        g.run(0);
        dueRaise(g, 1, 0);
        g.board(3, 4, 5);
        read(g, "7:");
        g.edition(11);
        dueRaise(g, 1, 0);
    }

    private static void raiseOfAllTen() {
        GradeTexts g = reading("1:n0+n1=0;2:e0>1,n0>1;3:c01=1,n0=1,n1=2;4:1/n1=0;5:");
        g.board(10, 10, 10);
        for (int i = 0; i < 10; i++) {
            g.fault(i % 2, i % 3 == 0 ? 1 : 0, i, i % 4, 1, 1);
        }
        due("run", g.run(0), 4);
        dueRaise(g, 1, 0, 1, 2, 3, 4, 5, 6, 7, 8, 9);
        dueRaise(g, 2, 1, 4, 5, 8);
        dueRaise(g, 3, 0, 1, 2, 3, 4, 5, 7);
        dueRaise(g, 5, 0, 3, 6);
        dueRaise(g, 4);
    }

    private static void promise16Appeal() {
        promise = 16;
        GradeTexts g = new GradeTexts();
        due("the same person", g.appeal(7, 1, 7, 2), 2);
        due("the same person and grade", g.appeal(-7, 1, -7, 1), 2);
        due("another grade", g.appeal(7, 1, 8, 2), 1);
        due("the same grade", g.appeal(7, 3, 8, 3), 0);
        due("numbers of any size", g.appeal(Integer.MIN_VALUE, Integer.MAX_VALUE, Integer.MAX_VALUE, Integer.MIN_VALUE), 1);
    }

    private static void promise17Counted() {
        promise = 17;
        GradeTexts g = reading("0:l=0;9:l=9;4:l=4");
        g.run(0);
        g.run(1);
        g.walk(0);
        g.board(9, 0, 0);
        g.run(0);
        g.board(5, 0, 0);
        g.run(0);
        g.run(0);
        g.run(0);
        due("counted(0)", g.counted(0), 2);
        due("counted(9)", g.counted(9), 1);
        due("counted(4)", g.counted(4), 0);
        due("counted(NONE)", g.counted(GradeTexts.NONE), 3);
        dueThrow("counted(-2)", ARGUMENT, () -> g.counted(-2));
        dueThrow("counted(10)", ARGUMENT, () -> g.counted(10));
    }

    private static void promise18Machine() {
        promise = 18;
        GradeTexts g = new GradeTexts();
        due("machine(0, 9)", g.machine(0, 9), 1);
        due("machine(0, 9)", g.machine(0, 9), 2);
        due("machine(9, 0)", g.machine(9, 0), 1);
        due("machine(1, 0)", g.machine(1, 0), 1);
        due("machine(0, 9)", g.machine(0, 9), 3);
        due("machine(9, 9)", g.machine(9, 9), 1);
        dueThrow("machine(-1, 0)", ARGUMENT, () -> g.machine(-1, 0));
        dueThrow("machine(0, -1)", ARGUMENT, () -> g.machine(0, -1));
        dueThrow("machine(10, 0)", ARGUMENT, () -> g.machine(10, 0));
        dueThrow("machine(0, 10)", ARGUMENT, () -> g.machine(0, 10));
        due("machine(1, 0)", g.machine(1, 0), 2);
    }
}
