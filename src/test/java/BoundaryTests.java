import java.lang.reflect.InvocationTargetException;
import java.lang.reflect.Method;
import java.util.Arrays;

/**
 * Every sentence of the document that names a boundary, one case each: the sentence, and a row of
 * calls on a new object with the answers that are due, written "call numbers -> answer". "text T"
 * gives the characters of T one by one and reads them; "printed" writes the rules from 0 up to NONE; a
 * number before a call repeats it; without "->" a call must only not throw, and a text be right.
 */
public final class BoundaryTests {
    private static final int MOST_CALLS = 512;

    private static int cases = 0;
    private static int wrong = 0;

    /** Of the case that is played: nothing is promised behind 512. */
    private static int calls = 0;

    public static void main(String[] args) throws Exception {
        termsBoard();
        termsText();
        termsRules();
        termsConditions();
        termsExpressions();
        termsNumbers();
        termsKinds();
        termsCounts();
        termsGreatest();
        termsMargins();
        termsWorstFactor();
        termsFaceFactor();
        termsNegation();
        termsParentheses();
        termsLongs();
        termsOpen();
        termsOpenOrder();
        termsHolds();
        termsPrintedNumbers();
        termsPrintedFactors();
        termsPrintedBehindSigns();
        termsWorst();
        termsEditions();
        termsGraded();
        promise1();
        promise2();
        promise3Ends();
        promise3Wrong();
        promise3Stays();
        promise4();
        promise5();
        promise6();
        promise7();
        promise8();
        promise9();
        promise10();
        promise11();
        promise12();
        promise13();
        promise14();
        promise15Fewest();
        promise15Latest();
        promise16();
        promise17();
        promise18();
        fiveHundredTwelveCalls();
        throwsChangeNothing();
        System.out.println(wrong == 0 ? cases + " cases, all answers are as due" : wrong + " of " + cases + " cases are not as due");
        if (wrong != 0) {
            System.exit(1);
        }
    }

    // ---- how a case is played

    private static void check(String sentence, String... rows) throws Exception {
        cases++;
        calls = 0;
        GradeTexts g = new GradeTexts();
        for (String row : rows) {
            int cut = row.indexOf(" -> ");
            String call = cut < 0 ? row : row.substring(0, cut);
            String due = cut < 0 ? "" : row.substring(cut + 4);
            String got = play(g, call);
            if (calls > MOST_CALLS) {
                throw new IllegalStateException(sentence + ": more calls than the document promises");
            }
            if (cut < 0 ? isRefused(call, got) : !got.equals(due)) {
                wrong++;
                System.out.println(sentence + ": " + call + " answered " + got + ", due is " + (cut < 0 ? "that it works" : due));
                return;
            }
        }
    }

    private static boolean isRefused(String call, String got) {
        return got.startsWith("throws.") || call.startsWith("text ") && !Character.isDigit(got.charAt(0));
    }

    private static String play(GradeTexts g, String call) throws Exception {
        String[] words = call.split(" ");
        if (words[0].equals("text")) {
            return text(g, words.length > 1 ? words[1] : "");
        }
        if (words[0].equals("printed")) {
            return printed(g);
        }
        int times = 1;
        int first = 0;
        if (Character.isDigit(words[0].charAt(0))) {
            times = Integer.parseInt(words[0]);
            first = 1;
        }
        long[] numbers = new long[words.length - first - 1];
        for (int i = 0; i < numbers.length; i++) {
            numbers[i] = number(words[first + 1 + i]);
        }
        String got = "";
        for (int i = 0; i < times; i++) {
            String one = ask(g, words[first], numbers);
            got = i == 0 || one.equals(got) ? one : got + " and then " + one;
        }
        return got;
    }

    private static long number(String word) {
        switch (word) {
            case "MININT":
                return Integer.MIN_VALUE;
            case "MAXINT":
                return Integer.MAX_VALUE;
            case "MINLONG":
                return Long.MIN_VALUE;
            case "MAXLONG":
                return Long.MAX_VALUE;
            default:
                return Long.parseLong(word);
        }
    }

    private static String text(GradeTexts g, String characters) throws Exception {
        for (int i = 0; i < characters.length(); i++) {
            if (!ask(g, "unit", characters.charAt(i)).equals("true")) {
                return "no room for character " + i;
            }
        }
        return ask(g, "read");
    }

    private static String printed(GradeTexts g) throws Exception {
        StringBuilder made = new StringBuilder();
        for (int i = 0; i <= 300; i++) {
            String unit = ask(g, "write", i);
            if (unit.startsWith("throws.")) {
                return unit;
            }
            if (unit.equals("-1")) {
                return made.toString();
            }
            made.append((char) Integer.parseInt(unit));
        }
        return "more than 300 characters";
    }

    private static String ask(GradeTexts g, String name, long... numbers) throws Exception {
        calls++;
        for (Method method : GradeTexts.class.getDeclaredMethods()) {
            if (!method.getName().equals(name) || method.getParameterCount() != numbers.length) {
                continue;
            }
            Object[] given = new Object[numbers.length];
            for (int i = 0; i < numbers.length; i++) {
                given[i] = method.getParameterTypes()[i] == long.class ? (Object) numbers[i] : (Object) Math.toIntExact(numbers[i]);
            }
            try {
                return String.valueOf(method.invoke(g, given));
            } catch (InvocationTargetException e) {
                return "throws." + e.getCause().getClass().getSimpleName();
            }
        }
        throw new IllegalStateException("no method " + name);
    }

    private static String times(int n, String part) {
        return part.repeat(n);
    }

    /** The condition holds on the board of these rows, and one that differs by its relation alone doesn't. */
    private static void checkHolds(String sentence, String condition, String... rows) throws Exception {
        check(sentence, behind(rows, "text 1:" + condition + " -> 1", "run 0 -> 1", "walk 0 -> 1"));
        check(sentence + " (not !)",
            behind(rows, "text 1:" + condition.replace('=', '!') + " -> 1", "run 0 -> -1", "walk 0 -> -1"));
    }

    private static String[] behind(String[] rows, String... more) {
        String[] all = Arrays.copyOf(rows, rows.length + more.length);
        System.arraycopy(more, 0, all, rows.length, more.length);
        return all;
    }

    /** A text of one rule that is open at a condition, for a cause. */
    private static void checkOpen(String sentence, String text, int condition, int cause) throws Exception {
        check(sentence, "text " + text + " -> 1", "run 0 -> -1", "walk 0 -> -1", "open 0 0 -> 0", "open 0 1 -> " + condition,
            "open 0 2 -> " + cause, "open 1 0 -> throws.ArrayIndexOutOfBoundsException");
    }

    private static void checkPrinted(String sentence, String text, String due) throws Exception {
        check(sentence, "text " + text, "printed -> " + due);
        check(sentence + ", printed again", "text " + due, "printed -> " + due);
    }

    private static void checkRead(String sentence, String text, int due) throws Exception {
        check(sentence, "text " + text + " -> " + due);
    }

    // ---- Terms

    private static void termsBoard() throws Exception {
        checkHolds("LENGTH is 0 at first", "l=0");
        checkHolds("WIDTH is 0 at first", "w=0");
        checkHolds("THICK is 0 at first", "t=0");
        check("10 faults at most",
            "10 fault 0 0 0 0 0 0 -> 1 and then 2 and then 3 and then 4 and then 5 and then 6 and then 7" + " and then 8 and then 9 and then 10",
            "fault 0 0 0 0 0 0 -> throws.IllegalStateException");
        checkHolds("AREA is 0 if w is 0", "a0=0", "fault 0 0 1 1 0 9");
        checkHolds("AREA is 0 if h is 0", "a0=0", "fault 0 0 1 1 9 0");
        checkHolds("AREA of the greatest fault", "a0=1000*1000*1000*1000", "fault 0 0 0 0 1000000 1000000");
        checkHolds("AREAS of ten of these", "a0=1000*1000*1000*1000*10", "10 fault 1 0 0 0 1000000 1000000");
    }

    private static void termsText() throws Exception {
        check("a text of 300 characters", "text 1:" + times(294, "-") + "1=01 -> 1", "write 0 -> 49", "write 298 -> 49",
            "write 299 -> -1", "run 0 -> 1", "walk 0 -> 1");
        check("a text of 300 characters to which more must come", "text 1:" + times(298, "-") + " -> -301");
        check("the 301st character has no room", "300 unit 49 -> true", "unit 49 -> false", "read -> -2");
        check("as many conditions as rules and conditions can be",
            "text " + times(11, "1:" + times(5, "1=1,") + "1=2;") + "2:1=1 -> 12", "run 0 -> 2", "walk 0 -> 2", "why 1 10 -> 5",
            "why 2 0 -> 1");
    }

    private static void termsRules() throws Exception {
        checkRead("1 rule", "1:", 1);
        checkRead("no rule: the end comes too soon", "", -1);
        checkRead("12 rules", times(11, "1:;") + "1:", 12);
        checkRead("a 13th rule: its ; can't be there", times(12, "1:;") + "1:", -36);
        checkRead("12 rules and a ; more", times(12, "1:;"), -36);
        checkRead("12 rules with conditions", times(11, "1:1=1;") + "1:1=1", 12);
        checkRead("a 13th rule behind conditions", times(12, "1:1=1;"), -72);
        check("the grade 0", "text 0: -> 1", "run 0 -> 0");
        check("the grade 9", "text 9: -> 1", "run 0 -> 9");
        checkRead("a grade is one digit", "10:", -2);
        checkRead("the character before the digits is no grade", "/:", -1);
        checkRead("the character behind the digits is no grade", "::", -1);
        checkRead("a letter is no grade", "l:", -1);
        checkRead("no conditions", "1:;2:", 2);
    }

    private static void termsConditions() throws Exception {
        checkRead("one condition", "1:1=1", 1);
        checkRead("six conditions", "1:" + times(5, "1=1,") + "1=1", 1);
        checkRead("a seventh condition: its , can't be there", "1:" + times(6, "1=1,") + "1=1", -26);
        checkRead("six conditions and a , more", "1:" + times(6, "1=1,"), -26);
        checkRead("six conditions in each of two rules", "1:" + times(5, "1=1,") + "1=1;2:" + times(5, "1=1,") + "1=1", 2);
        checkRead("a seventh condition in the second rule", "1:1=1;2:" + times(6, "1=1,"), -32);
        check("all six conditions must hold", "text 1:0=0,0=0,0=0,0=0,0=0,0=1;2: -> 2", "run 0 -> 2", "walk 0 -> 2",
            "why 1 0 -> 5");
        check("all six conditions hold", "text 1:0=0,0=0,0=0,0=0,0=0,0=0;2: -> 2", "run 0 -> 1", "walk 0 -> 1", "why 1 0 -> 6");
        check("< below", "text 1:1<2", "run 0 -> 1", "walk 0 -> 1");
        check("< the same", "text 1:2<2", "run 0 -> -1", "walk 0 -> -1");
        check("< above", "text 1:3<2", "run 0 -> -1", "walk 0 -> -1");
        check("> below", "text 1:1>2", "run 0 -> -1", "walk 0 -> -1");
        check("> the same", "text 1:2>2", "run 0 -> -1", "walk 0 -> -1");
        check("> above", "text 1:3>2", "run 0 -> 1", "walk 0 -> 1");
        check("= below", "text 1:1=2", "run 0 -> -1", "walk 0 -> -1");
        check("= the same", "text 1:2=2", "run 0 -> 1", "walk 0 -> 1");
        check("= above", "text 1:3=2", "run 0 -> -1", "walk 0 -> -1");
        check("! below", "text 1:1!2", "run 0 -> 1", "walk 0 -> 1");
        check("! the same", "text 1:2!2", "run 0 -> -1", "walk 0 -> -1");
        check("! above", "text 1:3!2", "run 0 -> 1", "walk 0 -> 1");
        check("< of numbers below nothing", "text 1:-2<-1,-1<0,-1<1", "run 0 -> 1", "walk 0 -> 1");
    }

    private static void termsExpressions() throws Exception {
        checkHolds("sums are reckoned from the left on", "9-4-3=2");
        checkHolds("a - and then a +", "9-4+3=8");
        checkHolds("products are reckoned from the left on", "99/10/3=3");
        checkHolds("a / and then a *", "7/2*2=6");
        checkHolds("a * and then a /", "7*2/2=7");
        checkHolds("terms come before sums", "1+2*3=7");
        checkHolds("terms come before sums on both sides", "8/2-3*1=1");
        checkHolds("as many terms as the text has room for", times(146, "1+") + "1=147");
        checkHolds("as many factors as the text has room for", times(147, "1*") + "1=1");
        checkHolds("the same on the right side", "147=" + times(146, "1+") + "1");
        checkRead("a sum without a term behind +", "1:1+", -5);
        checkRead("a sum without a term behind -", "1:1-", -5);
        checkRead("a product without a factor behind *", "1:1*", -5);
        checkRead("a product without a factor behind /", "1:1/", -5);
        checkRead("a sum without a term before +", "1:+1", -3);
        checkRead("a product without a factor before *", "1:*1", -3);
        checkRead("a product without a factor before /", "1:/1", -3);
        checkRead("* behind +", "1:1+*1", -5);
        checkRead("- behind * is of a factor", "1:1*-1=1", 1);
    }

    private static void termsNumbers() throws Exception {
        checkRead("a number of 1 digit", "1:0=9", 1);
        checkRead("a number of 6 digits", "1:999999=100000", 1);
        checkRead("a seventh digit can't be there", "1:9999999=1", -9);
        checkRead("a seventh digit can't be there on the right side", "1:1=9999999", -11);
        checkRead("zeros before a number are digits, too", "1:0000001=1", -9);
        checkRead("six zeros", "1:000000=0", 1);
        checkHolds("the greatest number", "999999=1000*1000-1");
        checkHolds("zeros before a number don't count", "000010=10");
        checkRead("a number of no digit", "1:=1", -3);
        checkRead("a digit behind a letter", "1:l1=1", -4);
        checkRead("a letter behind a number", "1:1l=1", -4);
    }

    private static void termsKinds() throws Exception {
        for (char letter : new char[] {'n', 'a', 's', 'e'}) {
            checkRead(letter + " of kind 0", "1:" + letter + "0=0", 1);
            checkRead(letter + " of kind 7", "1:" + letter + "7=0", 1);
            checkRead(letter + " of kind 8", "1:" + letter + "8=0", -4);
            checkRead(letter + " of kind 9", "1:" + letter + "9=0", -4);
            checkRead(letter + " of the character before 0", "1:" + letter + "/=0", -4);
            checkRead(letter + " without a kind", "1:" + letter + "=0", -4);
            checkRead(letter + " at the end", "1:" + letter, -4);
            checkRead(letter + " of a kind of two digits", "1:" + letter + "00=0", -5);
        }
        for (char letter : new char[] {'l', 'w', 't'}) {
            checkRead(letter + " has no kind", "1:" + letter + "0=0", -4);
        }
        for (char unit : "bdghijkmopqruvxyzABCDEFLNSTW~|{}[]^_`@?%&'\"#$.".toCharArray()) {
            checkRead(unit + " begins no factor", "1:" + unit + "0=0", -3);
        }
    }

    private static void termsCounts() throws Exception {
        checkHolds("n without a fault", "n0=0");
        checkHolds("n of ten", "n7=10", "10 fault 0 7 0 0 0 0");
        checkHolds("n counts its own kind alone", "n3=1", "fault 0 2 0 0 0 0", "fault 0 3 0 0 0 0", "fault 0 4 0 0 0 0",
            "fault 1 0 3 3 3 3");
        checkHolds("n counts both faces", "n3=2", "fault 0 3 0 0 0 0", "fault 1 3 0 0 0 0");
        checkHolds("a without a fault", "a0=0");
        checkHolds("a without a fault of its kind", "a1=0", "fault 0 0 0 0 5 5", "fault 0 2 0 0 5 5");
        checkHolds("a is a sum", "a1=6+35", "fault 0 1 0 0 2 3", "fault 1 1 0 0 5 7", "fault 0 2 0 0 9 9");
    }

    private static void termsGreatest() throws Exception {
        checkHolds("s is 0 without a fault", "s0=0");
        checkHolds("s is 0 without a fault of its kind", "s1=0", "fault 0 0 9 9 9 9", "fault 0 2 9 9 9 9");
        checkHolds("s is the greatest w", "s1=8", "fault 0 1 99 99 8 7");
        checkHolds("s is the greatest h", "s1=8", "fault 0 1 99 99 7 8");
        checkHolds("s of the first fault", "s1=9", "fault 0 1 0 0 9 1", "fault 0 1 0 0 1 8");
        checkHolds("s of the last fault", "s1=9", "fault 0 1 0 0 8 1", "fault 0 1 0 0 1 9");
        checkHolds("s of a fault without w or h", "s1=0", "fault 0 1 5 5 0 0");
        checkHolds("s at its greatest", "s1=999999+1", "fault 0 1 0 0 1000000 1");
    }

    private static void termsMargins() throws Exception {
        checkHolds("e is WIDTH without a fault", "e0=20", "board 1 20 3");
        checkHolds("e is WIDTH without a fault of its kind", "e1=20", "board 1 20 3", "fault 0 0 0 0 1 1", "fault 0 2 0 0 1 1");
        checkHolds("e is y where that is less", "e1=4", "board 1 20 3", "fault 0 1 9 4 9 11");
        checkHolds("e is WIDTH - y - h where that is less", "e1=4", "board 1 20 3", "fault 0 1 9 5 9 11");
        checkHolds("e where both are the same", "e1=4", "board 1 20 3", "fault 0 1 9 4 9 12");
        checkHolds("e at the edge y = 0", "e1=0", "board 1 20 3", "fault 0 1 9 0 9 1");
        checkHolds("e at the edge y + h = WIDTH", "e1=0", "board 1 20 3", "fault 0 1 9 15 9 5");
        checkHolds("e beyond the edge is below nothing", "e1=-1", "board 1 20 3", "fault 0 1 9 15 9 6");
        checkHolds("e of the first of two", "e1=2", "board 1 20 3", "fault 0 1 9 2 9 1", "fault 0 1 9 3 9 1");
        checkHolds("e of the last of two", "e1=2", "board 1 20 3", "fault 0 1 9 3 9 1", "fault 0 1 9 2 9 1");
        checkHolds("e at its least", "e1=-1000*2000", "fault 0 1 0 1000000 0 1000000");
        checkHolds("e at its greatest", "e1=999999+1", "board 0 1000000 0");
    }

    private static void termsWorstFactor() throws Exception {
        checkRead("c of kind 0", "1:c01=0", 1);
        checkRead("c of kind 7", "1:c71=0", 1);
        checkRead("c of kind 8", "1:c81=0", -4);
        checkRead("c without a kind", "1:cl=0", -4);
        checkRead("c at the end", "1:c", -4);
        checkRead("c without a factor", "1:c0=0", -5);
        checkRead("c and its kind at the end", "1:c0", -5);
        checkRead("c's factor is a number of 6 digits", "1:c0123456=0", 1);
        checkRead("c's factor has no seventh digit", "1:c01234567=0", -11);
        String[] faults = {"fault 0 2 10 0 9 9", "fault 1 2 15 0 9 9", "fault 0 3 12 0 9 9"};
        checkHolds("c: the end of the window is not in it", "c25=1", faults);
        checkHolds("c: what stands before the end is", "c26=2", faults);
        checkHolds("c in a length of 1", "c21=1", faults);
        checkHolds("c in a length of 0", "c20=0", faults);
        checkHolds("c in a length below 0", "c2-9=0", faults);
        checkHolds("c of a kind without faults", "c49=0", faults);
        checkHolds("c in a length beyond an int", "c2(65536*65536)=2", faults);
        checkHolds("c in a length whose lowest 32 bits are below 0", "c2(65536*32768)=2", faults);
        checkHolds("c in the greatest length", "c2(65536*65536*65536*32768-1)=2", faults);
        checkHolds("c in the least length", "c2(65536*65536*65536*32768)=0", faults);
        checkHolds("c of c: 9, 1, 1", "c2c3c29=1", faults);
        checkHolds("c's factor is no term", "c25*6=6", faults);
        checkHolds("c's factor may be of -", "c2--6=2", faults);
    }

    private static void termsFaceFactor() throws Exception {
        String[] faults = {"fault 0 2 1 1 1 1", "fault 1 3 1 1 1 1", "fault 1 4 1 1 1 1"};
        checkRead("f without a factor", "1:f=0", -4);
        checkRead("f at the end", "1:f", -4);
        checkHolds("f of face 0", "f0=1", faults);
        checkHolds("f of face 1", "f1=2", faults);
        checkHolds("f of a face without faults", "f0=0", "fault 1 0 0 0 0 0");
        checkHolds("f by the lowest 32 bits: 0", "f(65536*65536)=1", faults);
        checkHolds("f by the lowest 32 bits: 1", "f(65536*65536+1)=2", faults);
        checkHolds("f by the lowest 32 bits below nothing", "f(-65536*65536+1)=2", faults);
        checkHolds("f of the least long", "f(65536*65536*65536*32768)=1", faults);
        checkHolds("f of f", "ff0=2", faults);
        checkHolds("f's factor is no term", "f1*3=6", faults);
        checkHolds("f's factor is no sum", "f0+1=2", faults);
        checkOpen("f of face 2", "1:f2=0", 0, GradeTexts.FACE);
        checkOpen("f of face -1", "1:f-1=0", 0, GradeTexts.FACE);
        checkOpen("f of the greatest number", "1:f999999=0", 0, GradeTexts.FACE);
        checkOpen("f by the lowest 32 bits: 2", "1:f(65536*65536+2)=0", 0, GradeTexts.FACE);
        checkOpen("f by the lowest 32 bits: -1", "1:f(65536*65536-1)=0", 0, GradeTexts.FACE);
        checkOpen("f by the lowest 32 bits: the least int", "1:f(65536*32768)=0", 0, GradeTexts.FACE);
        checkOpen("f by the lowest 32 bits: the greatest int", "1:f(65536*32768-1)=0", 0, GradeTexts.FACE);
        checkOpen("f of the greatest long", "1:f(65536*65536*65536*32768-1)=0", 0, GradeTexts.FACE);
    }

    private static void termsNegation() throws Exception {
        checkHolds("- of 0", "-0=0");
        checkHolds("- of a number", "-5=2-7");
        checkHolds("- of -", "--5=5");
        checkHolds("- behind -", "7--5=12");
        checkHolds("- is of a factor, not of a term", "-7/2=-3");
        checkHolds("- is of a factor, not of a sum", "-7+2=-5");
        checkHolds("- before c", "-c09=-2", "fault 0 0 1 0 0 0", "fault 0 0 2 0 0 0");
        checkHolds("- before f", "-f1=-1", "fault 1 0 1 0 0 0");
        checkHolds("an even row of - as long as a text", times(290, "-") + "1=1");
        checkHolds("an odd row of - as long as a text", times(291, "-") + "1=-1");
        checkHolds("the least long has no other", "-(65536*65536*65536*32768)=65536*65536*65536*32768");
        checkRead("- at the end", "1:-", -4);
        checkRead("- without a factor", "1:-=1", -4);
    }

    private static void termsParentheses() throws Exception {
        checkRead("eight ( in one another", "1:" + times(8, "(") + "1" + times(8, ")") + "=1", 1);
        checkRead("a ninth ( can't be there", "1:" + times(9, "(") + "1" + times(9, ")") + "=1", -11);
        checkRead("eight in one another, and eight again beside them",
            "1:" + times(8, "(") + "1" + times(8, ")") + "+" + times(8, "(") + "1" + times(8, ")") + "=1", 1);
        checkRead("a ninth beside eight that are closed", "1:" + times(8, "(") + "1" + times(8, ")") + "+(1)=1", 1);
        checkRead("a ninth when one of eight is closed", "1:" + times(8, "(") + "1)+(1" + times(8, ")") + "=1", 1);
        checkRead("a ninth when one of eight is closed, and a tenth", "1:" + times(8, "(") + "1)+((1", -15);
        checkRead("eight on the right side", "1:1=" + times(8, "(") + "1" + times(8, ")"), 1);
        checkRead("a ninth on the right side", "1:1=" + times(9, "(") + "1", -13);
        checkRead("eight, each of a -", "1:" + times(8, "-(") + "1" + times(8, ")") + "=1", 1);
        checkRead("a ninth, each of a -", "1:" + times(9, "-("), -20);
        checkRead("eight, each of a c", "1:" + times(8, "c0(") + "1" + times(8, ")") + "=1", 1);
        checkRead("a ninth, each of a c", "1:" + times(9, "c0("), -29);
        checkRead("eight, each of an f", "1:" + times(8, "f(") + "1" + times(8, ")") + "=1", 1);
        checkRead("a ninth, each of an f", "1:" + times(9, "f("), -20);
        checkRead("eight, each behind *", "1:" + times(8, "1*(") + "1" + times(8, ")") + "=1", 1);
        checkRead("a ninth, each behind *", "1:" + times(9, "1*("), -29);
        checkRead("as many ( as a text has room for", "1:" + times(298, "("), -11);
        checkRead("( without )", "1:(1=1", -5);
        checkRead("( that is never closed", "1:(1", -5);
        checkRead(") without (", "1:1)=1", -4);
        checkRead(") of a condition before it", "1:(1=1)", -5);
        checkRead("nothing in ( )", "1:()=1", -4);
        checkRead("( at the end", "1:(", -4);
        checkRead("a number before (", "1:1(1)=1", -4);
        checkRead("a number behind )", "1:(1)1=1", -6);
        checkHolds("eight, with sums that wait at each on the right side", "7=" + times(8, "1-(") + "6+1" + times(8, ")"));
        checkHolds("eight, with sums that wait at each on both sides",
            times(8, "1-(") + "6+1" + times(8, ")") + "=" + times(8, "2-(") + "6+1" + times(8, ")"));
        checkHolds("eight, with sums that wait at each", times(8, "1+2*(") + "1+2*3" + times(8, ")") + "=511+2*3*256");
    }

    private static void termsLongs() throws Exception {
        String least = "65536*65536*65536*32768";
        check("longs wrap: the least one is below nothing", "text 1:" + least + "<0", "run 0 -> 1", "walk 0 -> 1");
        check("longs wrap: the greatest one is above nothing", "text 1:" + least + "-1>0", "run 0 -> 1", "walk 0 -> 1");
        checkHolds("longs wrap: + behind the greatest one", "(" + least + "-1)+1=" + least);
        checkHolds("longs wrap: - before the least one", "-(" + least + "-1)-2=" + least + "-1");
        checkHolds("longs wrap: * beyond 64 bits", "65536*65536*65536*65536=0");
        checkHolds("longs wrap: / of the least one by -1", least + "/-1=" + least);
        checkHolds("longs: * beyond 32 bits", "65536*65536/65536=65536");
        checkHolds("/ cuts off", "7/2=3");
        checkHolds("/ cuts off below nothing", "(0-7)/2=0-3");
        checkHolds("/ cuts off behind a divisor below nothing", "7/-2=-3");
        checkHolds("/ cuts off with both below nothing", "-7/-2=3");
        checkHolds("/ cuts off to 0", "-1/2=0");
    }

    private static void termsOpen() throws Exception {
        checkOpen("a division by 0", "1:1/0=0", 0, GradeTexts.DIVISION);
        checkOpen("a division of 0 by 0", "1:0/0=0", 0, GradeTexts.DIVISION);
        checkOpen("a division by a number that is 0", "1:1/n0=0", 0, GradeTexts.DIVISION);
        checkOpen("a division by a sum that is 0", "1:1/(1-1)=0", 0, GradeTexts.DIVISION);
        checkOpen("a division by a product that wraps to 0", "1:1/(65536*65536*65536*65536)=0", 0, GradeTexts.DIVISION);
        checkOpen("a division by 0 on the right side", "1:0=1/0", 0, GradeTexts.DIVISION);
        checkOpen("a division by 0 whose answer would not matter", "1:0*(1/0)=0", 0, GradeTexts.DIVISION);
        checkOpen("a division by 0 behind a division", "1:8/2/0=0", 0, GradeTexts.DIVISION);
        checkOpen("a division by 0 before a division", "1:8/0/2=0", 0, GradeTexts.DIVISION);
        checkOpen("a division by 0 in the length of c", "1:c0(1/0)=0", 0, GradeTexts.DIVISION);
        checkOpen("a division by 0 eight deep", "1:((((((((1/0))))))))=0", 0, GradeTexts.DIVISION);
        checkOpen("a face of a face", "1:f(f0+2)=0", 0, GradeTexts.FACE);
        checkOpen("a face in the length of c", "1:c0f2=0", 0, GradeTexts.FACE);
        checkOpen("a face whose answer would not matter", "1:0*f2=0", 0, GradeTexts.FACE);
        checkOpen("a face on the right side", "1:0=f2", 0, GradeTexts.FACE);
        checkOpen("the second condition, if the first holds", "1:1=1,1/0=0", 1, GradeTexts.DIVISION);
        checkOpen("the sixth condition, if all before hold", "1:1=1,1=1,1=1,1=1,1=1,f2=0", 5, GradeTexts.FACE);
        check("a division of 0 by another number is none", "text 1:0/1=0,0/-1=0", "run 0 -> 1", "walk 0 -> 1");
    }

    private static void termsOpenOrder() throws Exception {
        checkOpen("the first that comes: left side before right side", "1:1/0=f2", 0, GradeTexts.DIVISION);
        checkOpen("the first that comes: left side before right side, the other way", "1:f2=1/0", 0, GradeTexts.FACE);
        checkOpen("the first that comes: left term", "1:1/0+f2=0", 0, GradeTexts.DIVISION);
        checkOpen("the first that comes: left term, the other way", "1:f2-1/0=0", 0, GradeTexts.FACE);
        checkOpen("the first that comes: left factor", "1:(1/0)*f2=0", 0, GradeTexts.DIVISION);
        checkOpen("the first that comes: left factor, the other way", "1:f2*(1/0)=0", 0, GradeTexts.FACE);
        checkOpen("the divisor is reckoned before the division", "1:1/(0*f2)=0", 0, GradeTexts.FACE);
        checkOpen("the number of a face is reckoned before the face", "1:f(2/0)=0", 0, GradeTexts.DIVISION);
        checkOpen("an open factor before a division by 0", "1:f2/0=0", 0, GradeTexts.FACE);
        checkOpen("a division by 0 before a *", "1:1/0*f2=0", 0, GradeTexts.DIVISION);
        checkOpen("the first condition before the second", "1:f2=0,1/0=0", 0, GradeTexts.FACE);
        check("a condition behind one that doesn't hold is not reckoned", "text 1:1=2,1/0=0,f2=0;2:", "run 0 -> 2", "walk 0 -> 2",
            "why 1 0 -> 0", "open 0 0 -> throws.ArrayIndexOutOfBoundsException");
        check("a condition behind one that holds and one that doesn't", "text 1:1=1,1=2,1/0=0;2:", "run 0 -> 2", "walk 0 -> 2",
            "why 1 0 -> 1", "open 0 0 -> throws.ArrayIndexOutOfBoundsException");
    }

    private static void termsHolds() throws Exception {
        check("a rule without conditions holds", "text 3:", "run 0 -> 3", "walk 0 -> 3", "why 3 0 -> 0");
        check("an open rule doesn't hold", "text 3:1/0=0", "run 0 -> -1", "walk 0 -> -1");
        check("an open rule doesn't hold, whatever its relation", "text 3:1/0!0;4:1/0<1;5:f2>-1;6:f9!0", "run 0 -> -1",
            "walk 0 -> -1", "open 3 0 -> 3");
        check("a rule whose last condition is open doesn't hold", "text 3:1=1,1=1,1/0=0;4:", "run 0 -> 4", "walk 0 -> 4",
            "why 3 0 -> 2");
        check("a rule whose first condition alone doesn't hold", "text 3:1=2,1=1,1=1;4:", "run 0 -> 4", "walk 0 -> 4",
            "why 3 0 -> 0");
        check("a rule whose middle condition alone doesn't hold", "text 3:1=1,1=2,1=1;4:", "run 0 -> 4", "walk 0 -> 4",
            "why 3 0 -> 1");
    }

    private static void termsPrintedNumbers() throws Exception {
        checkPrinted("0 stays", "1:0=0", "1:0=0");
        checkPrinted("zeros alone are one 0", "1:00=000000", "1:0=0");
        checkPrinted("zeros before a number go", "1:01=000010", "1:1=10");
        checkPrinted("zeros in and behind a number stay", "1:100100=0100", "1:100100=100");
        checkPrinted("a kind's 0 is no zero before a number", "1:n0=c0c001", "1:n0=c0c01");
        checkPrinted("zeros behind a kind go", "1:c0000=c7007", "1:c00=c77");
        checkPrinted("a grade's 0 stays", "0:1=1;0:", "0:1=1;0:");
        checkPrinted("zeros behind f and - go", "1:f00=-00", "1:f0=-0");
        checkPrinted("rules without conditions stay", "1:;2:;1:", "1:;2:;1:");
        checkPrinted("every sign stays", "9:l+w-t*n0/a1<s2,e3>c45,f0=-1,2!3", "9:l+w-t*n0/a1<s2,e3>c45,f0=-1,2!3");
    }

    private static void termsPrintedFactors() throws Exception {
        checkPrinted("( ) around a number go", "1:(1)=((2))", "1:1=2");
        checkPrinted("eight ( ) around a number go", "1:((((((((1))))))))=((((((((w))))))))", "1:1=w");
        checkPrinted("( ) around a whole side go", "1:(l+w)=(l*w)", "1:l+w=l*w");
        checkPrinted("( ) around a sum that is the first factor stay", "1:(l+w)*t=(l-w)/t", "1:(l+w)*t=(l-w)/t");
        checkPrinted("two ( ) around a sum are one", "1:((l+w))*t=t*((l-w))", "1:(l+w)*t=t*(l-w)");
        checkPrinted("( ) around a product that is the first factor go", "1:(l*w)*t=(l/w)/t", "1:l*w*t=l/w/t");
        checkPrinted("( ) around a product that is the first factor before the other sign go", "1:(l*w)/t=(l/w)*t",
            "1:l*w/t=l/w*t");
        checkPrinted("( ) around a sum stay behind -", "1:-(l+w)=-(l-w)", "1:-(l+w)=-(l-w)");
        checkPrinted("( ) around a sum stay behind c", "1:c0(l+w)=c1(l-w)", "1:c0(l+w)=c1(l-w)");
        checkPrinted("( ) around a sum stay behind f", "1:f(l+w)=f(l-w)", "1:f(l+w)=f(l-w)");
        checkPrinted("( ) around a product stay behind -", "1:-(l*w)=-(l/w)", "1:-(l*w)=-(l/w)");
        checkPrinted("( ) around a product stay behind c", "1:c0(l*w)=c1(l/w)", "1:c0(l*w)=c1(l/w)");
        checkPrinted("( ) around a product stay behind f", "1:f(l*w)=f(l/w)", "1:f(l*w)=f(l/w)");
        checkPrinted("( ) around a factor go behind -, c, f", "1:-(l)=c0(w)+f(t)", "1:-l=c0w+ft");
        checkPrinted("( ) around a factor of - go", "1:(-l)*w=l*(-w)", "1:-l*w=l*-w");
        checkPrinted("( ) around a factor of - go behind -", "1:-(-l)=l-(-w)", "1:--l=l--w");
        checkPrinted("( ) around a factor of c go", "1:(c0l)*w=l/(c0w)", "1:c0l*w=l/c0w");
        checkPrinted("( ) around a factor of f go", "1:(fl)*w=f(fl)", "1:fl*w=ffl");
        checkPrinted("( ) around a sum in one another", "1:((l+w)*(l-w)+t)*2=0", "1:((l+w)*(l-w)+t)*2=0");
        checkPrinted("( ) eight deep that are all needed", "1:" + times(8, "2*(1+") + "l" + times(8, ")") + "=0",
            "1:" + times(8, "2*(1+") + "l" + times(8, ")") + "=0");
    }

    private static void termsPrintedBehindSigns() throws Exception {
        checkPrinted("( ) around a sum stay behind *", "1:l*(w+t)=l*(w-t)", "1:l*(w+t)=l*(w-t)");
        checkPrinted("( ) around a sum stay behind /", "1:l/(w+t)=l/(w-t)", "1:l/(w+t)=l/(w-t)");
        checkPrinted("( ) around a product stay behind *", "1:l*(w*t)=l*(w/t)", "1:l*(w*t)=l*(w/t)");
        checkPrinted("( ) around a product stay behind /", "1:l/(w*t)=l/(w/t)", "1:l/(w*t)=l/(w/t)");
        checkPrinted("( ) around a sum stay behind -", "1:l-(w+t)=l-(w-t)", "1:l-(w+t)=l-(w-t)");
        checkPrinted("( ) around a sum stay behind +", "1:l+(w+t)=l+(w-t)", "1:l+(w+t)=l+(w-t)");
        checkPrinted("( ) around a product go behind -", "1:l-(w*t)=l-(w/t)", "1:l-w*t=l-w/t");
        checkPrinted("( ) around a product go behind +", "1:l+(w*t)=l+(w/t)", "1:l+w*t=l+w/t");
        checkPrinted("( ) around a sum before + and - go", "1:(l+w)+t=(l-w)-t", "1:l+w+t=l-w-t");
        checkPrinted("( ) around a product before + and - go", "1:(l*w)+t=(l/w)-t", "1:l*w+t=l/w-t");
        checkPrinted("( ) around a sum that begins a product behind +", "1:l+(w+t)*2=l-(w+t)/2", "1:l+(w+t)*2=l-(w+t)/2");
        checkPrinted("( ) around a product with a sum in it", "1:l-((w+t)*2)=l+(2*(w+t))", "1:l-(w+t)*2=l+2*(w+t)");
        checkPrinted("( ) around a third factor", "1:l*w*(t*2)=l*w*(t)", "1:l*w*(t*2)=l*w*t");
        checkPrinted("( ) around a third term", "1:l+w+(t-2)=l-w-(t)", "1:l+w+(t-2)=l-w-t");
        checkPrinted("( ) around a factor go behind each sign", "1:l+(w)-(t)=l*(w)/(t)", "1:l+w-t=l*w/t");
        checkPrinted("( ) of every condition and rule", "1:(l)=1,(w)=2;2:l+(w+t)=(3),(l)<(w)", "1:l=1,w=2;2:l+(w+t)=3,l<w");
    }

    private static void termsWorst() throws Exception {
        String one = "fault 0 2 10 0 3 5";
        String two = "fault 1 2 15 0 2 2";
        String other = "fault 0 3 12 0 9 9";
        check("WORST: the end of the window is not in it", one, two, other, "worst 2 5 0 -> 1", "worst 2 5 1 -> 15");
        check("WORST: what stands before the end is", one, two, other, "worst 2 6 0 -> 2", "worst 2 6 1 -> 19");
        check("WORST: a window of 1", one, two, other, "worst 2 1 0 -> 1", "worst 2 1 1 -> 15");
        check("WORST: 0 if the length is 0", one, two, other, "worst 2 0 0 -> 0", "worst 2 0 1 -> 0");
        check("WORST: 0 if the length is below 0", one, two, other, "worst 2 -1 0 -> 0", "worst 2 -1 1 -> 0",
            "worst 2 MININT 0 -> 0", "worst 2 MININT 1 -> 0");
        check("WORST: the greatest length doesn't wrap", one, two, other, "worst 2 MAXINT 0 -> 2", "worst 2 MAXINT 1 -> 19");
        check("WORST: the greatest length from the greatest x on", "2 fault 0 0 1000000 0 1 1", "worst 0 MAXINT 0 -> 2",
            "worst 0 1 1 -> 2");
        check("WORST: from 0 to the greatest x", "fault 0 0 0 0 1 1", "fault 0 0 1000000 0 1 1", "worst 0 1000000 0 -> 1",
            "worst 0 1000001 0 -> 2");
        check("WORST: without a fault", "worst 0 9 0 -> 0", "worst 0 9 1 -> 0");
        check("WORST: without a fault of the kind", one, two, other, "worst 1 99 0 -> 0", "worst 4 99 1 -> 0");
        check("WORST: the window need not begin at the first fault", "fault 0 0 0 0 1 1", "fault 0 0 10 0 1 1",
            "fault 0 0 11 0 1 1", "worst 0 2 0 -> 2");
        check("WORST: the faults may come in any order", "fault 0 0 11 0 1 1", "fault 0 0 0 0 1 1", "fault 0 0 10 0 1 1",
            "worst 0 2 0 -> 2", "worst 0 11 0 -> 2", "worst 0 12 0 -> 3");
        check("WORST: the most faults and the greatest sum may be of two windows", "fault 0 0 0 0 9 9", "2 fault 0 0 10 0 1 1",
            "worst 0 1 0 -> 2", "worst 0 1 1 -> 81");
        check("WORST: faults without an area count", "2 fault 0 0 5 0 0 9", "worst 0 1 0 -> 2", "worst 0 1 1 -> 0");
        check("WORST: ten at one place", "10 fault 0 7 5 0 1000000 1000000", "worst 7 1 0 -> 10",
            "worst 7 1 1 -> 10000000000000");
        check("WORST: by x alone, not by w", "fault 0 0 0 0 100 1", "fault 0 0 50 0 100 1", "worst 0 50 0 -> 1",
            "worst 0 51 0 -> 2");
        check("WORST: faults behind LENGTH count", "board 5 5 5", one, two, "worst 2 6 0 -> 2");
    }

    private static void termsEditions() throws Exception {
        check("EDITIONS: 4 at most", "text 1:", "edition 0 -> 1", "edition 1 -> 2", "edition 2 -> 3", "edition 3 -> 4",
            "edition 4 -> throws.IllegalStateException");
        check("EDITIONS: from a day on", "text 1:", "edition 5", "text 2:", "run 4 -> 2", "run 5 -> 1", "run 6 -> 1",
            "walk 4 -> 2", "walk 5 -> 1");
        check("EDITIONS: until those of a later day", "text 1:", "edition 5", "text 2:", "edition 7", "text 3:", "run 6 -> 1",
            "run 7 -> 2", "walk 6 -> 1", "walk 7 -> 2", "run 4 -> 3", "walk 4 -> 3");
        check("EDITIONS: one rules, two editions", "text 1:", "edition 5", "edition 7 -> 2", "text 2:", "run 4 -> 2",
            "run 5 -> 1", "run 7 -> 1");
        check("EDITIONS: what is read later doesn't change them", "text 1:l=0", "edition 0", "text 2:", "text 3:x -> -3",
            "run 0 -> 1", "walk 0 -> 1");
        check("EDITIONS: an edition of the rules before a wrong text", "text 1:", "text 2 -> -2", "edition 0 -> 1", "text 3:",
            "run 0 -> 1");
    }

    private static void termsGraded() throws Exception {
        check("GRADED: the first rule that holds", "text 1:1=2;2:1=1;3:1=1", "run 0 -> 2", "walk 0 -> 2");
        check("GRADED: the last of twelve", "text " + times(11, "1:1=2;") + "2:", "run 0 -> 2", "walk 0 -> 2");
        check("GRADED: NONE if none does", "text 1:1=2;2:1=2", "run 0 -> -1", "walk 0 -> -1");
        check("GRADED: the same grade twice", "text 1:1=2;1:", "run 0 -> 1", "why 1 1 -> 0");
        check("GRADED: a later edition is not asked, if the latest one grades NONE", "text 1:", "edition 1", "text 2:1=2",
            "edition 2", "text 3:", "run 2 -> -1", "walk 2 -> -1");
        check("GRADED: by what was read last on the least day", "text 1:", "edition 0", "text 2:", "run MINLONG -> 2",
            "walk MINLONG -> 2", "run -1 -> 2");
        check("GRADED: on the greatest day", "text 1:", "edition MAXLONG", "text 2:", "run MAXLONG -> 1", "walk MAXLONG -> 1");
        check("GRADED: a day before the greatest", "text 1:", "edition MAXLONG", "text 2:", "run 9223372036854775806 -> 2");
        check("GRADED: any day without an edition", "text 1:", "run MAXLONG -> 1", "run MINLONG -> 1", "walk 0 -> 1");
    }

    // ---- the promises

    private static final String STATE = " -> throws.IllegalStateException";
    private static final String ARGUMENT = " -> throws.IllegalArgumentException";
    private static final String INDEX = " -> throws.ArrayIndexOutOfBoundsException";

    private static void promise1() throws Exception {
        check("1: a board of 0, 0, 0", "text 1:l+w+t=0,l=w,w=t,n0+n7=0,e0=0,s0=0", "run 0 -> 1", "walk 0 -> 1");
        check("1: without faults", "face 0 -> 0", "face 1 -> 0", "worst 0 9 0 -> 0");
        check("1: the first fault is the first", "fault 0 0 0 0 0 0 -> 1");
        check("1: no text", "read -> -1");
        check("1: no rules to write", "write 0" + STATE);
        check("1: no rules to run", "run 0" + STATE);
        check("1: no rules to walk", "walk 0" + STATE);
        check("1: no rules for an edition", "edition 0" + STATE);
        check("1: nothing was run", "why 0 0" + STATE, "raise 0 0" + STATE, "open 0 0" + INDEX);
        check("1: no edition", "text 1:", "edition 0 -> 1");
        check("1: nothing is counted", "counted -1 -> 0", "counted 0 -> 0", "counted 9 -> 0");
        check("1: nothing was told beside", "machine 0 0 -> 1");
    }

    private static void promise2() throws Exception {
        check("2: 33 is taken", "unit 33 -> true", "unit 126 -> true");
        check("2: 126 is taken", "unit 126 -> true");
        check("2: 32 isn't", "unit 32 -> false", "text 1: -> 1");
        check("2: 127 isn't", "unit 127 -> false", "text 1: -> 1");
        check("2: 0 isn't", "unit 0 -> false", "text 1: -> 1");
        check("2: -1 isn't", "unit -1 -> false", "text 1: -> 1");
        check("2: the least int isn't", "unit MININT -> false", "text 1: -> 1");
        check("2: the greatest int isn't", "unit MAXINT -> false", "text 1: -> 1");
        check("2: a number whose lowest 8 bits are a character isn't", "unit 305 -> false", "text 1: -> 1");
        check("2: a number whose lowest 16 bits are a character isn't", "unit 65585 -> false", "text 1: -> 1");
        check("2: a refused one between others leaves them together", "unit 49 -> true", "unit 32 -> false", "unit 58 -> true",
            "read -> 1");
        check("2: the 300th has room", "299 unit 49 -> true", "unit 49 -> true");
        check("2: the 301st has none", "300 unit 49 -> true", "unit 49 -> false", "unit 126 -> false", "unit 33 -> false");
        check("2: neither room nor a character", "300 unit 49 -> true", "unit 32 -> false", "unit 127 -> false");
        check("2: behind read() there is room again", "300 unit 49 -> true", "read -> -2", "unit 49 -> true", "unit 58 -> true",
            "read -> 1");
        check("2: a refused one is not in the text", "unit 49", "unit 58", "295 unit 45 -> true", "unit 49", "unit 61", "unit 49",
            "unit 41 -> false", "read -> 1");
        check("2: a text behind a refused one", "unit 49", "unit 58", "298 unit 45 -> true", "unit 49 -> false", "read -> -301");
    }

    private static void promise3Ends() throws Exception {
        checkRead("3: the end of nothing", "", -1);
        checkRead("3: the end behind a grade", "1", -2);
        checkRead("3: an end behind : is right", "1:", 1);
        checkRead("3: the end behind a left side", "1:1", -4);
        checkRead("3: the end behind a relation", "1:1=", -5);
        checkRead("3: an end behind a right side is right", "1:1=1", 1);
        checkRead("3: the end behind ,", "1:1=1,", -7);
        checkRead("3: the end behind ;", "1:1=1;", -7);
        checkRead("3: the end behind ; of a rule without conditions", "1:;", -4);
        checkRead("3: the end behind a later grade", "1:;2", -5);
        checkRead("3: the end behind a second left side", "1:1=1,1", -8);
        checkRead("3: the end behind a sign of the right side", "1:1=1+", -7);
        checkRead("3: the end in ( ) of the right side", "1:1=(1", -7);
        checkRead("3: the end of six digits", "1:123456", -9);
        checkRead("3: the end at 300 characters", "1:1=" + times(296, "("), -13);
    }

    private static void promise3Wrong() throws Exception {
        checkRead("3: no grade", ":", -1);
        checkRead("3: another character than :", "1;", -2);
        checkRead("3: a second :", "1::", -3);
        checkRead("3: , without a condition", "1:,", -3);
        checkRead("3: a relation without a left side", "1:<1", -3);
        checkRead("3: a relation without a right side", "1:1<,", -5);
        checkRead("3: two relations beside one another", "1:1<=1", -5);
        checkRead("3: a second relation", "1:1=1=1", -6);
        checkRead("3: , for a relation", "1:1,1", -4);
        checkRead("3: ; for a relation", "1:1;2:", -4);
        checkRead("3: ; behind ,", "1:1=1,;", -7);
        checkRead("3: , behind ,", "1:1=1,,", -7);
        checkRead("3: ; behind ;", "1:;;", -4);
        checkRead("3: : in a condition", "1:1:1", -4);
        checkRead("3: : behind a condition", "1:1=1:", -6);
        checkRead("3: a second rule without a grade", "1:;:", -4);
        checkRead("3: a second rule without :", "1:;2;", -5);
        checkRead("3: a wrong character of a later condition", "1:1=1,n8=1", -8);
        checkRead("3: a wrong character of a later rule", "1:1=1;2:n0=n8", -13);
        checkRead("3: the first of several wrong characters", "1:x=y;z", -3);
        checkRead("3: a wrong character at the very end", "1:1=1x", -6);
        checkRead("3: ) behind a right side", "1:1=1)", -6);
        checkRead("3: ( behind a right side", "1:1=1(", -6);
        checkRead("3: the 300th character is wrong", "1:" + times(294, "-") + "1=1)", -300);
    }

    private static void promise3Stays() throws Exception {
        check("3: the text is empty behind a right one", "text 1: -> 1", "read -> -1");
        check("3: the text is empty behind a wrong one", "text x -> -1", "text 1: -> 1");
        check("3: a wrong text: the rules before stay", "text 1:l=0 -> 1", "text 2:l=0,x -> -7", "printed -> 1:l=0", "run 0 -> 1",
            "walk 0 -> 1");
        check("3: an empty text: the rules before stay", "text 1:l=0 -> 1", "read -> -1", "printed -> 1:l=0", "run 0 -> 1",
            "walk 0 -> 1");
        check("3: a wrong text at first: nothing was read", "text 1:x -> -3", "write 0" + STATE, "run 0" + STATE,
            "walk 0" + STATE, "edition 0" + STATE);
        check("3: a text that breaks off in its last rule leaves nothing of itself", "text 1: -> 1", "text 2:;3:;4 -> -8",
            "printed -> 1:", "run 0 -> 1");
        check("3: a right text takes the place of the rules before", "text 1:l=0,w=0;2: -> 2", "text 3: -> 1", "printed -> 3:",
            "run 0 -> 3", "walk 0 -> 3");
        check("3: a shorter text behind a longer one with ( ) and zeros", "text 1:((l+w))=0001;2:(3)=3 -> 2",
            "text 1:l=1;2:3=3 -> 2", "printed -> 1:l=1;2:3=3");
        check("3: ( ) that are needed where the text before had none that were", "text 1:(l)=(w) -> 1", "text 1:-(l+w)=1 -> 1",
            "printed -> 1:-(l+w)=1");
    }

    private static void promise4() throws Exception {
        check("4: character 0", "text 7:", "write 0 -> 55", "write 1 -> 58");
        check("4: NONE behind the end", "text 7:", "write 2 -> -1", "write 3 -> -1");
        check("4: NONE far behind the end", "text 7:", "write 300 -> -1", "write MAXINT -> -1");
        check("4: the last of 300 characters", "text 1:" + times(295, "-") + "1=7 -> 1", "write 299 -> 55", "write 300 -> -1");
        check("4: the end of the printed text, not of the text", "text 1:(01)=1 -> 1", "write 4 -> 49", "write 5 -> -1");
        check("4: nothing was read", "write 0" + STATE);
        check("4: nothing was read comes before i below 0", "write -1" + STATE);
        check("4: i is below 0", "text 7:", "write -1" + ARGUMENT, "write MININT" + ARGUMENT);
        check("4: the rules that were read last, not an edition", "text 7:", "edition 0", "text 8:l=1", "run 0 -> 7",
            "printed -> 8:l=1");
        check("4: not the text that is not read yet", "text 7:", "unit 56", "printed -> 7:");
    }

    private static void promise5() throws Exception {
        check("5: nothing was read", "edition 0" + STATE);
        check("5: nothing was read comes before a day below 0", "edition -1" + STATE);
        check("5: day 0 is the least", "text 1:", "edition 0 -> 1");
        check("5: a day below 0", "text 1:", "edition -1" + ARGUMENT, "edition MINLONG" + ARGUMENT, "edition 0 -> 1");
        check("5: the day of the edition before", "text 1:", "edition 5 -> 1", "edition 5" + ARGUMENT, "edition 6 -> 2");
        check("5: a day before the edition before", "text 1:", "edition 5 -> 1", "edition 4" + ARGUMENT, "edition 0" + ARGUMENT,
            "edition -1" + ARGUMENT);
        check("5: the greatest day", "text 1:", "edition MAXLONG -> 1", "edition MAXLONG" + ARGUMENT, "edition 0" + ARGUMENT);
        check("5: a day beyond an int", "text 1:", "edition 4294967296 -> 1", "text 2:", "run 4294967295 -> 2",
            "run 4294967296 -> 1", "run 0 -> 2");
        check("5: there are 4", "text 1:", "edition 1 -> 1", "edition 2 -> 2", "edition 3 -> 3", "edition 4 -> 4",
            "edition 5" + STATE);
        check("5: no room comes before a wrong day", "text 1:", "edition 1", "edition 2", "edition 3", "edition 4",
            "edition 4" + STATE, "edition -1" + STATE);
        check("5: a refused edition is none", "text 1:", "edition 5", "text 2:", "edition 5" + ARGUMENT, "run 5 -> 1", "text 3:",
            "edition 6 -> 2", "run 6 -> 3");
    }

    private static void promise6() throws Exception {
        check("6: 0 is the least", "board 1 1 1", "board 0 0 0", "text 1:l=0,w=0,t=0", "run 0 -> 1");
        check("6: 1000000 is the greatest", "board 1000000 1000000 1000000", "text 1:l=999999+1,w=l,t=l", "run 0 -> 1");
        check("6: a length below 0", "board -1 1 1" + ARGUMENT, "board MININT 1 1" + ARGUMENT);
        check("6: a width below 0", "board 1 -1 1" + ARGUMENT, "board 1 MININT 1" + ARGUMENT);
        check("6: a thickness below 0", "board 1 1 -1" + ARGUMENT, "board 1 1 MININT" + ARGUMENT);
        check("6: a length above", "board 1000001 1 1" + ARGUMENT, "board MAXINT 1 1" + ARGUMENT);
        check("6: a width above", "board 1 1000001 1" + ARGUMENT, "board 1 MAXINT 1" + ARGUMENT);
        check("6: a thickness above", "board 1 1 1000001" + ARGUMENT, "board 1 1 MAXINT" + ARGUMENT);
        check("6: its faults stay", "fault 0 0 5 6 7 8", "fault 1 1 5 6 7 8", "board 1 2 3", "face 0 -> 1", "face 1 -> 1",
            "worst 0 1 1 -> 56");
        check("6: a refused board leaves the one before", "board 1 2 3", "board 9 9 -1" + ARGUMENT, "text 1:l=1,w=2,t=3",
            "run 0 -> 1");
        check("6: length, width, thickness are not one for another", "board 1 2 3", "text 1:l=1,w=2,t=3", "run 0 -> 1",
            "walk 0 -> 1");
    }

    private static void promise7() throws Exception {
        check("7: the least numbers", "fault 0 0 0 0 0 0 -> 1", "face 0 -> 1");
        check("7: the greatest numbers", "fault 1 7 1000000 1000000 1000000 1000000 -> 1", "face 1 -> 1",
            "worst 7 1 1 -> 1000000000000");
        check("7: face -1", "fault -1 0 0 0 0 0" + INDEX, "fault MININT 0 0 0 0 0" + INDEX);
        check("7: face 2", "fault 2 0 0 0 0 0" + INDEX, "fault MAXINT 0 0 0 0 0" + INDEX);
        check("7: kind -1", "fault 0 -1 0 0 0 0" + ARGUMENT, "fault 0 MININT 0 0 0 0" + ARGUMENT);
        check("7: kind 8", "fault 0 8 0 0 0 0" + ARGUMENT, "fault 0 MAXINT 0 0 0 0" + ARGUMENT);
        check("7: x below 0", "fault 0 0 -1 0 0 0" + ARGUMENT, "fault 0 0 MININT 0 0 0" + ARGUMENT);
        check("7: x above", "fault 0 0 1000001 0 0 0" + ARGUMENT, "fault 0 0 MAXINT 0 0 0" + ARGUMENT);
        check("7: y below 0", "fault 0 0 0 -1 0 0" + ARGUMENT, "fault 0 0 0 MININT 0 0" + ARGUMENT);
        check("7: y above", "fault 0 0 0 1000001 0 0" + ARGUMENT, "fault 0 0 0 MAXINT 0 0" + ARGUMENT);
        check("7: w below 0", "fault 0 0 0 0 -1 0" + ARGUMENT, "fault 0 0 0 0 MININT 0" + ARGUMENT);
        check("7: w above", "fault 0 0 0 0 1000001 0" + ARGUMENT, "fault 0 0 0 0 MAXINT 0" + ARGUMENT);
        check("7: h below 0", "fault 0 0 0 0 0 -1" + ARGUMENT, "fault 0 0 0 0 0 MININT" + ARGUMENT);
        check("7: h above", "fault 0 0 0 0 0 1000001" + ARGUMENT, "fault 0 0 0 0 0 MAXINT" + ARGUMENT);
        check("7: a refused one is none", "fault 0 8 0 0 0 0" + ARGUMENT, "fault 2 0 0 0 0 0" + INDEX, "fault 0 0 0 0 0 0 -> 1",
            "face 0 -> 1");
        check("7: there are 10", "9 fault 0 0 0 0 0 0", "fault 0 0 0 0 0 0 -> 10", "fault 0 0 0 0 0 0" + STATE, "face 0 -> 10");
        check("7: no such face comes before no room", "10 fault 0 0 0 0 0 0", "fault 2 0 0 0 0 0" + INDEX,
            "fault -1 0 0 0 0 0" + INDEX);
        check("7: no such face comes before a wrong number", "fault 2 8 -1 0 0 0" + INDEX, "fault -1 0 0 0 0 1000001" + INDEX);
        check("7: no room comes before a wrong number", "10 fault 0 0 0 0 0 0", "fault 0 8 0 0 0 0" + STATE,
            "fault 0 0 0 0 0 -1" + STATE);
        check("7: a fault may lie beyond the board", "board 1 1 1", "fault 0 0 2 2 2 2 -> 1");
    }

    private static void promise8() throws Exception {
        check("8: there are no faults", "fault 0 0 1 1 1 1", "fault 1 1 1 1 1 1", "clearFaults", "face 0 -> 0", "face 1 -> 0",
            "worst 0 9 0 -> 0");
        check("8: without a fault before", "clearFaults", "face 0 -> 0", "fault 0 0 0 0 0 0 -> 1");
        check("8: ten have room again", "10 fault 0 0 0 0 0 0", "clearFaults", "fault 1 0 0 0 0 0 -> 1", "9 fault 1 0 0 0 0 0",
            "fault 1 0 0 0 0 0" + STATE, "face 0 -> 0", "face 1 -> 10");
        check("8: the board stays", "board 1 2 3", "fault 0 0 0 0 0 0", "clearFaults", "text 1:l=1,w=2,t=3,n0=0", "run 0 -> 1",
            "walk 0 -> 1");
        check("8: what was counted and run stays", "text 1:n0=1", "fault 0 0 0 0 0 0", "run 0 -> 1", "clearFaults",
            "counted 1 -> 1", "why 1 0 -> 1");
    }

    private static void promise9() throws Exception {
        check("9: a face without faults", "face 0 -> 0", "face 1 -> 0");
        check("9: ten on face 0", "10 fault 0 0 0 0 0 0", "face 0 -> 10", "face 1 -> 0");
        check("9: ten on face 1", "10 fault 1 0 0 0 0 0", "face 0 -> 0", "face 1 -> 10");
        check("9: faults of all kinds", "fault 0 0 0 0 0 0", "fault 0 7 0 0 0 0", "fault 1 3 0 0 0 0", "face 0 -> 2",
            "face 1 -> 1");
        check("9: no face -1", "face -1" + INDEX, "face MININT" + INDEX);
        check("9: no face 2", "face 2" + INDEX, "face MAXINT" + INDEX);
    }

    private static void promise10() throws Exception {
        check("10: nothing was read", "run 0" + STATE, "counted -1 -> 0");
        check("10: nothing was read but a wrong text", "text 1 -> -2", "run 0" + STATE);
        check("10: it is counted", "text 4:", "run 0 -> 4", "counted 4 -> 1", "run 0 -> 4", "counted 4 -> 2");
        check("10: NONE is counted", "text 4:1=2", "run 0 -> -1", "counted -1 -> 1", "counted 4 -> 0");
        check("10: an edition's grade is counted", "text 4:", "edition 3", "text 5:", "run 3 -> 4", "counted 4 -> 1",
            "counted 5 -> 0");
        check("10: any day", "text 4:", "run MINLONG -> 4", "run MAXLONG -> 4", "run -1 -> 4");
        check("10: rules that break off deep in ( ) leave nothing to later ones",
            "text 1:1+1*(1+1*(1+1*(1+1*(1/0))))=0;2:1+1*(1+1*(1+1*(1+1*2)))=6 -> 2", "100 run 0 -> 2", "100 walk 0 -> 2",
            "counted 2 -> 100", "open 0 2 -> 1", "why 2 0 -> 1");
        check("10: the board and the faults of now", "text 4:l=3,n0=1;5:", "run 0 -> 5", "board 3 0 0", "run 0 -> 5",
            "fault 0 0 0 0 0 0", "run 0 -> 4", "clearFaults", "run 0 -> 5");
    }

    private static void promise11() throws Exception {
        check("11: nothing was read", "walk 0" + STATE);
        check("11: nothing was read but a wrong text", "text 1 -> -2", "walk 0" + STATE);
        check("11: it is not counted", "text 4:", "walk 0 -> 4", "counted 4 -> 0", "counted -1 -> 0");
        check("11: NONE is not counted", "text 4:1=2", "walk 0 -> -1", "counted -1 -> 0");
        check("11: nothing was run behind a walk alone", "text 4:1/0=0", "walk 0 -> -1", "why 4 0" + STATE, "raise 4 0" + STATE,
            "open 0 0" + INDEX);
        check("11: why() stays", "text 4:1=1,1=2", "run 0 -> -1", "text 4:1=2", "walk 0 -> -1", "why 4 0 -> 1");
        check("11: open() stays where the walk has none", "text 4:1=1,1/0=0", "run 0 -> -1", "text 4:", "walk 0 -> 4",
            "open 0 1 -> 1", "open 0 2 -> 1");
        check("11: open() stays where the walk has another", "text 4:1=1,1/0=0", "run 0 -> -1", "text 4:;5:f2=0",
            "text 6:1=2;5:f2=0", "walk 0 -> -1", "open 0 0 -> 0", "open 0 2 -> 1", "open 1 0" + INDEX);
        check("11: raise() stays by the latest run()", "text 4:n0=0;5:", "fault 0 0 0 0 0 0", "run 0 -> 5", "text 6:n0=0;7:",
            "walk 0 -> 7", "raise 4 0 -> 0", "raise 6 0 -> -1");
        check("11: an edition's rules", "text 4:", "edition 3", "text 5:", "walk 3 -> 4", "walk 2 -> 5");
        check("11: rules with ( ) and zeros", "text 1:((01)+(2))*(3)=(009),-(1+2)=-(3);2: -> 2", "walk 0 -> 1", "run 0 -> 1");
        check("11: a walk behind a rule that breaks off in ( )", "text 1:1=(1/0)*(2+3),2=2;2:1=2,((1))=1;3:n0=0 -> 3",
            "walk 0 -> 3", "run 0 -> 3");
        check("11: a rule without conditions before others", "text 1:;2:1=1", "walk 0 -> 1");
        check("11: a rule without conditions before another one", "text 1:;2:", "walk 0 -> 1");
        check("11: a rule without conditions between others", "text 1:1=2;3:;4:1=1", "walk 0 -> 3");
        check("11: a rule without conditions at the end", "text 1:1=2;3:", "walk 0 -> 3");
        check("11: two walks", "text 1:l=1;2:", "walk 0 -> 2", "board 1 0 0", "walk 0 -> 1", "walk 0 -> 1");
    }

    private static void promise12() throws Exception {
        check("12: nothing was run", "text 1:", "why 1 0" + STATE);
        check("12: nothing was run comes before a wrong number", "why -1 0" + STATE, "why 10 0" + STATE, "why 0 -1" + STATE);
        check("12: grade -1", "text 1:", "run 0", "why -1 0" + ARGUMENT, "why MININT 0" + ARGUMENT);
        check("12: grade 10", "text 1:", "run 0", "why 10 0" + ARGUMENT, "why MAXINT 0" + ARGUMENT);
        check("12: grade 0 and 9", "text 0:1=2;9:1=1", "run 0 -> 9", "why 0 0 -> 0", "why 9 0 -> 1");
        check("12: k below 0", "text 1:", "run 0", "why 1 -1" + ARGUMENT, "why 1 MININT" + ARGUMENT);
        check("12: none of the grade", "text 1:", "run 0", "why 2 0 -> -1", "why 0 0 -> -1");
        check("12: not so many", "text 1:1=2;1:1=1", "run 0 -> 1", "why 1 0 -> 0", "why 1 1 -> 1", "why 1 2 -> -1",
            "why 1 MAXINT -> -1");
        check("12: run() did not come to it", "text 1:;1:1=1;2:1=1", "run 0 -> 1", "why 1 0 -> 0", "why 1 1 -> -1",
            "why 2 0 -> -1");
        check("12: none of its conditions held", "text 1:1=2,1=1", "run 0 -> -1", "why 1 0 -> 0");
        check("12: from the first one on", "text 1:1=1,1=2,1=1", "run 0 -> -1", "why 1 0 -> 1");
        check("12: all of its conditions held", "text 1:1=1,1=1,1=1,1=1,1=1,1=1", "run 0 -> 1", "why 1 0 -> 6");
        check("12: an open one", "text 1:1=1,1=1,1/0=1,1=1", "run 0 -> -1", "why 1 0 -> 2");
        check("12: twelve of a grade", "text " + times(11, "1:1=1,1=2;") + "1:1=1,1=1", "run 0 -> 1", "why 1 0 -> 1",
            "why 1 10 -> 1", "why 1 11 -> 2", "why 1 12 -> -1");
        check("12: the k-th one of a grade with others between", "text 1:1=2;2:1=1,1=2;1:1=1,1=1,1=2;2:1=2", "run 0 -> -1",
            "why 1 1 -> 2", "why 2 0 -> 1", "why 2 1 -> 0");
        check("12: the latest run(), not the rules that were read since", "text 1:1=1", "run 0 -> 1", "text 1:;2:",
            "why 1 0 -> 1", "why 2 0 -> -1");
        check("12: the latest run(), not one before", "text 1:1=1;2:l=0", "run 0 -> 1", "board 1 1 1", "text 1:l=0;2:l=1",
            "run 0 -> 2", "why 1 0 -> 0", "why 2 0 -> 1");
        check("12: the latest run() came to fewer", "text 1:l=1;2:1=1", "run 0 -> 2", "why 2 0 -> 1", "board 1 0 0", "run 0 -> 1",
            "why 2 0 -> -1");
        check("12: a run() that throws leaves nothing", "run 0" + STATE, "why 0 0" + STATE);
    }

    private static void promise13() throws Exception {
        check("13: nothing was run", "open 0 0" + INDEX, "text 1:1/0=0", "open 0 0" + INDEX);
        check("13: there is none", "text 1:", "run 0", "open 0 0" + INDEX);
        check("13: there are not so many", "text 1:1/0=0", "run 0", "open 0 0 -> 0", "open 1 0" + INDEX, "open MAXINT 0" + INDEX);
        check("13: k is below 0", "text 1:1/0=0", "run 0", "open -1 0" + INDEX, "open MININT 0" + INDEX);
        check("13: another what", "text 1:1/0=0", "run 0", "open 0 -1" + ARGUMENT, "open 0 3" + ARGUMENT,
            "open 0 MAXINT" + ARGUMENT, "open 0 MININT" + ARGUMENT);
        check("13: not so many comes before another what", "text 1:1/0=0", "run 0", "open 1 3" + INDEX, "open -1 -1" + INDEX);
        check("13: nothing was run comes before another what", "open 0 3" + INDEX);
        check("13: rule 0, condition 0", "text 1:1/0=0", "run 0", "open 0 0 -> 0", "open 0 1 -> 0", "open 0 2 -> 1");
        check("13: rule 11, condition 5", "text " + times(11, "1:1=2;") + "1:" + times(5, "1=1,") + "f2=0 -> 12", "run 0 -> -1",
            "open 0 0 -> 11", "open 0 1 -> 5", "open 0 2 -> 2", "open 1 0" + INDEX);
        check("13: twelve open ones", "text " + times(11, "1:1/0=0;") + "1:f2=0 -> 12", "run 0 -> -1", "open 10 0 -> 10",
            "open 10 2 -> 1", "open 11 0 -> 11", "open 11 2 -> 2", "open 12 0" + INDEX);
        check("13: open ones with others between", "text 1:1=2;2:f2=0;3:1=2;4:1=1,1/0=0;5:;6:1/0=0", "run 0 -> 5",
            "open 0 0 -> 1", "open 0 2 -> 2", "open 1 0 -> 3", "open 1 1 -> 1", "open 1 2 -> 1", "open 2 0" + INDEX);
        check("13: the latest run(), not one before", "text 1:1/l=0;2:", "run 0 -> 2", "open 0 0 -> 0", "board 1 0 0",
            "run 0 -> 2", "open 0 0" + INDEX);
        check("13: the latest run(), not the rules that were read since", "text 1:1/0=0", "run 0", "text 1:", "open 0 2 -> 1",
            "open 1 0" + INDEX);
        check("13: raise() adds none", "text 1:1/0=0;2:n0=0", "fault 0 0 0 0 0 0", "run 0 -> -1", "raise 2 0 -> 0",
            "open 0 0 -> 0", "open 1 0" + INDEX, "why 1 0 -> 0", "why 2 0 -> 0");
    }

    private static void promise14() throws Exception {
        check("14: kind 0 and kind 7", "fault 0 0 1 0 2 3", "fault 0 7 1 0 3 3", "worst 0 1 1 -> 6", "worst 7 1 1 -> 9");
        check("14: kind -1", "worst -1 1 0" + ARGUMENT, "worst MININT 1 0" + ARGUMENT);
        check("14: kind 8", "worst 8 1 0" + ARGUMENT, "worst MAXINT 1 0" + ARGUMENT);
        check("14: part -1", "worst 0 1 -1" + ARGUMENT, "worst 0 1 MININT" + ARGUMENT);
        check("14: part 2", "worst 0 1 2" + ARGUMENT, "worst 0 1 MAXINT" + ARGUMENT);
        check("14: a wrong kind or part also in a length below 1", "worst 8 0 0" + ARGUMENT, "worst 0 0 2" + ARGUMENT,
            "worst 0 0 0 -> 0");
        check("14: without rules", "fault 0 0 0 0 2 2", "worst 0 1 0 -> 1", "worst 0 1 1 -> 4");
    }

    private static void promise15Fewest() throws Exception {
        check("15: nothing was run", "text 1:", "raise 1 0" + STATE, "walk 0", "raise 1 0" + STATE);
        check("15: nothing was run comes before a wrong number", "raise -1 0" + STATE, "raise 10 0" + STATE,
            "raise 0 -1" + STATE);
        check("15: grade -1", "text 1:", "run 0", "raise -1 0" + ARGUMENT, "raise MININT 0" + ARGUMENT);
        check("15: grade 10", "text 1:", "run 0", "raise 10 0" + ARGUMENT, "raise MAXINT 0" + ARGUMENT);
        check("15: grade 0 and 9", "text 0:n0=0;9:n0=1;5:", "2 fault 0 0 0 0 0 0", "run 0 -> 5", "raise 0 0 -> 0",
            "raise 0 1 -> 1", "raise 9 0 -> 0", "raise 9 1 -> -1");
        check("15: k below 0", "text 1:", "run 0", "raise 1 -1" + ARGUMENT, "raise 1 MININT" + ARGUMENT);
        check("15: not so many", "text 1:n0=0;2:", "fault 0 0 0 0 0 0", "run 0", "raise 1 0 -> 0", "raise 1 1 -> -1",
            "raise 1 10 -> -1", "raise 1 MAXINT -> -1");
        check("15: no fault need be absent", "text 1:n0=1;2:", "fault 0 0 0 0 0 0", "run 0 -> 1", "raise 1 0 -> -1",
            "raise 2 0 -> 0");
        check("15: no fault need be absent, though one might", "text 1:n0<5;2:", "3 fault 0 0 0 0 0 0", "run 0 -> 1",
            "raise 1 0 -> -1", "raise 1 1 -> -1");
        check("15: it can't be: no rule of the grade", "text 1:", "fault 0 0 0 0 0 0", "run 0", "raise 2 0 -> -1");
        check("15: it can't be: without the fault no rule holds, which is no grade 0", "text 1:n0=1", "fault 0 0 0 0 0 0",
            "run 0 -> 1", "raise 0 0 -> -1", "raise 9 0 -> -1");
        check("15: it can't be: the rule never holds", "text 1:n0=2;2:", "fault 0 0 0 0 0 0", "run 0", "raise 1 0 -> -1");
        check("15: it can't be: a rule before holds, too", "text 1:n0<2;2:n0<1;3:", "3 fault 0 0 0 0 0 0", "run 0 -> 3",
            "raise 2 0 -> -1", "raise 1 0 -> 0", "raise 1 1 -> 1", "raise 1 2 -> -1");
        check("15: without a fault on the board", "text 1:n0=1;2:", "run 0 -> 2", "raise 1 0 -> -1", "raise 2 0 -> -1");
        check("15: all ten", "text 1:n0+n1=0;2:", "fault 0 1 0 0 0 0", "9 fault 0 0 0 0 0 0", "run 0 -> 2", "raise 1 0 -> 0",
            "raise 1 9 -> 9", "raise 1 10 -> -1");
        check("15: the last of ten", "text 1:n1=0;2:", "9 fault 0 0 0 0 0 0", "fault 0 1 0 0 0 0", "run 0 -> 2", "raise 1 0 -> 9",
            "raise 1 1 -> -1");
        check("15: the last five of ten", "text 1:n1=0;2:", "5 fault 0 0 0 0 0 0", "5 fault 0 1 0 0 0 0", "run 0 -> 2",
            "raise 1 0 -> 5", "raise 1 1 -> 6", "raise 1 2 -> 7", "raise 1 3 -> 8", "raise 1 4 -> 9", "raise 1 5 -> -1");
        check("15: every other one of ten", "text 1:n1=0;2:", "fault 0 0 0 0 0 0", "fault 0 1 0 0 0 0", "fault 0 0 0 0 0 0",
            "fault 0 1 0 0 0 0", "fault 0 0 0 0 0 0", "fault 0 1 0 0 0 0", "fault 0 0 0 0 0 0", "fault 0 1 0 0 0 0",
            "fault 0 0 0 0 0 0", "fault 0 1 0 0 0 0", "run 0 -> 2", "raise 1 0 -> 1", "raise 1 1 -> 3", "raise 1 2 -> 5",
            "raise 1 3 -> 7", "raise 1 4 -> 9", "raise 1 5 -> -1");
        check("15: all but the last of ten", "text 1:n0=0;2:", "9 fault 0 0 0 0 0 0", "fault 0 1 0 0 0 0", "run 0 -> 2",
            "raise 1 0 -> 0", "raise 1 8 -> 8", "raise 1 9 -> -1");
        check("15: fewer come before lesser numbers", "text 1:a0<5;2:", "fault 0 0 0 0 1 3", "fault 0 0 0 0 1 3",
            "fault 0 0 0 0 1 9", "fault 0 0 0 0 1 1", "run 0 -> 2", "raise 1 0 -> 0", "raise 1 1 -> 2", "raise 1 2 -> -1");
        check("15: of as few the least numbers", "text 1:n0=1;2:", "fault 0 1 0 0 0 0", "3 fault 0 0 0 0 0 0", "run 0 -> 2",
            "raise 1 0 -> 1", "raise 1 1 -> 2", "raise 1 2 -> -1");
        check("15: one by one from the first: 0, 3 before 1, 2", "text 1:a0=5;2:", "fault 0 0 0 0 1 1", "fault 0 0 0 0 1 2",
            "fault 0 0 0 0 1 3", "fault 0 0 0 0 1 4", "run 0 -> 2", "raise 1 0 -> 0", "raise 1 1 -> 3", "raise 1 2 -> -1");
        check("15: a lower grade can be asked for, too", "text 1:n0>0;2:", "fault 0 0 0 0 0 0", "run 0 -> 1", "raise 2 0 -> 0",
            "raise 2 1 -> -1");
        check("15: a rule that is open with the faults", "text 1:1/(n0-2)<0;2:", "2 fault 0 0 0 0 0 0", "run 0 -> 2",
            "raise 1 0 -> 0", "raise 1 1 -> -1");
        check("15: a rule that is open without the faults", "text 1:1/n0=2;2:", "fault 0 0 0 0 0 0", "run 0 -> 2",
            "raise 1 0 -> -1");
        check("15: each number is reckoned without them: a, s, e, c, f",
            "text 1:a0=0,s0=0,e0=9,c01=0,f0=0;2:a0=4;3:s0=3;4:e0=2;5:c01=1,f1=0;6:", "board 9 9 9", "fault 0 0 5 4 2 2",
            "fault 0 0 5 4 1 1", "fault 1 0 5 4 1 1", "run 0 -> 6", "raise 1 0 -> 0", "raise 1 2 -> 2", "raise 2 0 -> 1",
            "raise 2 1 -> 2", "raise 3 0 -> -1", "raise 4 0 -> -1", "raise 5 0 -> 0", "raise 5 1 -> 2");
        check("15: it is not counted", "text 1:n0=0;2:", "fault 0 0 0 0 0 0", "run 0", "raise 1 0 -> 0", "counted 1 -> 0",
            "counted 2 -> 1", "counted -1 -> 0");
        check("15: the faults stay", "text 1:n0=0;2:", "fault 0 0 0 0 0 0", "run 0", "raise 1 0 -> 0", "face 0 -> 1",
            "fault 0 0 0 0 0 0 -> 2", "run 0 -> 2");
    }

    private static void promise15Latest() throws Exception {
        check("15: by the edition of the latest run()", "text 1:n0=0;2:", "edition 0", "text 1:n1=0;2:", "edition 5",
            "fault 0 0 0 0 0 0", "fault 0 1 0 0 0 0", "run 4 -> 2", "raise 1 0 -> 0", "run 5 -> 2", "raise 1 0 -> 1",
            "run 0 -> 2", "raise 1 0 -> 0", "raise 1 1 -> -1");
        check("15: a walk() is no run()", "text 1:n0=0;2:", "edition 0", "text 1:n1=0;2:", "edition 5", "fault 0 0 0 0 0 0",
            "fault 0 1 0 0 0 0", "run 4 -> 2", "walk 5 -> 2", "raise 1 0 -> 0");
        check("15: an edition that came since is another one", "text 1:n0=0;2:", "edition 0", "fault 0 0 0 0 0 0",
            "fault 0 1 0 0 0 0", "run 5 -> 2", "text 1:n1=0;2:", "edition 5", "raise 1 0 -> 0", "run 5 -> 2", "raise 1 0 -> 1");
        check("15: the board of now: a fault more", "text 1:n0=0;2:", "fault 0 0 0 0 0 0", "run 0 -> 2", "raise 1 1 -> -1",
            "fault 0 0 0 0 0 0", "raise 1 1 -> 1");
        check("15: the board of now: no faults", "text 1:n0=0;2:", "fault 0 0 0 0 0 0", "run 0 -> 2", "raise 1 0 -> 0",
            "clearFaults", "raise 1 0 -> -1");
        check("15: the board of now: another fault", "text 1:n0=0;2:", "fault 0 0 0 0 0 0", "run 0 -> 2", "raise 1 0 -> 0",
            "clearFaults", "fault 0 1 0 0 0 0", "fault 0 0 0 0 0 0", "raise 1 0 -> 1");
        check("15: the board of now: another length", "text 1:n0=0,l=1;2:", "fault 0 0 0 0 0 0", "run 0 -> 2", "raise 1 0 -> -1",
            "board 1 0 0", "raise 1 0 -> 0");
        check("15: asked from the last to the first", "text 1:n0=0;2:", "3 fault 0 0 0 0 0 0", "run 0 -> 2", "raise 1 3 -> -1",
            "raise 1 2 -> 2", "raise 1 1 -> 1", "raise 1 0 -> 0");
        check("15: asked for two grades by turns", "text 1:n0=0;2:n0=1;3:", "3 fault 0 0 0 0 0 0", "run 0 -> 3", "raise 1 2 -> 2",
            "raise 2 1 -> 1", "raise 1 1 -> 1", "raise 2 2 -> -1");
    }

    private static void promise16() throws Exception {
        check("16: the same person with one grade", "appeal 3 1 3 1 -> 2");
        check("16: the same person with two grades", "appeal 3 1 3 2 -> 2");
        check("16: two persons with two grades", "appeal 3 1 4 2 -> 1");
        check("16: two persons with one grade", "appeal 3 1 4 1 -> 0");
        check("16: persons and grades below nothing", "appeal -1 -1 -1 -2 -> 2", "appeal -1 -5 1 -5 -> 0",
            "appeal -1 -5 1 5 -> 1");
        check("16: persons as far from one another as can be", "appeal MININT 0 MAXINT 0 -> 0", "appeal MININT 0 0 0 -> 0",
            "appeal MAXINT 9 MAXINT 0 -> 2");
        check("16: grades as far from one another as can be", "appeal 0 MININT 1 MAXINT -> 1", "appeal 0 MININT 1 0 -> 1",
            "appeal 0 MAXINT 1 MAXINT -> 0");
        check("16: a person whose number is the other's grade", "appeal 1 2 2 1 -> 1");
    }

    private static void promise17() throws Exception {
        check("17: NONE", "counted -1 -> 0", "text 1:1=2", "run 0 -> -1", "counted -1 -> 1");
        check("17: grade 0", "text 0:", "run 0 -> 0", "counted 0 -> 1", "counted -1 -> 0", "counted 1 -> 0");
        check("17: grade 9", "text 9:", "run 0 -> 9", "counted 9 -> 1", "counted 8 -> 0");
        check("17: below NONE", "counted -2" + ARGUMENT, "counted MININT" + ARGUMENT);
        check("17: above 9", "counted 10" + ARGUMENT, "counted MAXINT" + ARGUMENT);
        check("17: each grade alone", "text 1:l=1;2:l=2;3:", "run 0", "board 1 0 0", "2 run 0 -> 1", "board 2 0 0",
            "3 run 0 -> 2", "counted 1 -> 2", "counted 2 -> 3", "counted 3 -> 1", "counted -1 -> 0");
        check("17: a run() that throws is not counted", "run 0" + STATE, "counted -1 -> 0", "counted 0 -> 0");
    }

    private static void promise18() throws Exception {
        check("18: with this time", "machine 0 0 -> 1", "machine 0 0 -> 2", "machine 0 0 -> 3");
        check("18: 9 and 9", "machine 9 9 -> 1", "machine 9 9 -> 2");
        check("18: 0 and 9 are not 9 and 0", "machine 0 9 -> 1", "machine 9 0 -> 1", "machine 0 9 -> 2", "machine 9 0 -> 2");
        check("18: the same eye beside two machines", "machine 1 5 -> 1", "machine 2 5 -> 1", "machine 1 5 -> 2",
            "machine 9 5 -> 1");
        check("18: the same machine beside two eyes", "machine 5 1 -> 1", "machine 5 2 -> 1", "machine 5 1 -> 2",
            "machine 5 9 -> 1");
        check("18: 1 and 0 are not 0 and 9 or 0 and 1", "machine 1 0 -> 1", "machine 0 9 -> 1", "machine 0 1 -> 1");
        check("18: a machine's grade -1", "machine -1 0" + ARGUMENT, "machine MININT 0" + ARGUMENT);
        check("18: a machine's grade 10", "machine 10 0" + ARGUMENT, "machine MAXINT 0" + ARGUMENT);
        check("18: an eye's grade -1", "machine 0 -1" + ARGUMENT, "machine 0 MININT" + ARGUMENT);
        check("18: an eye's grade 10", "machine 0 10" + ARGUMENT, "machine 0 MAXINT" + ARGUMENT);
        check("18: a refused one is not counted", "machine 1 0 -> 1", "machine 0 10" + ARGUMENT, "machine 2 -1" + ARGUMENT,
            "machine 1 0 -> 2", "machine 1 9 -> 1");
        check("18: run() doesn't count here", "text 1:", "run 0 -> 1", "machine 1 1 -> 1", "counted 1 -> 1");
    }

    private static void fiveHundredTwelveCalls() throws Exception {
        check("the 512th call: machine", "511 machine 3 4", "machine 3 4 -> 512");
        check("the 512th call: counted", "unit 49", "unit 58", "read -> 1", "508 run 0 -> 1", "counted 1 -> 508");
        check("the 512th call: read", "511 read -> -1", "unit 49 -> true");
        check("the 512th call: raise", "text 1:n0+n1=0;2:", "10 fault 0 0 0 0 0 0", "run 0 -> 2", "487 raise 1 9 -> 9",
            "raise 1 0 -> 0");
    }

    // ---- a call that throws changes nothing

    private static void throwsChangeNothing() throws Exception {
        String[] fresh = {};
        for (String call : new String[] {"write 0", "write -1", "edition 0", "edition -1", "run 0", "walk 0", "why 0 0", "raise 0 0"}) {
            checkUnchanged("new", fresh, call + STATE);
        }
        for (String call : new String[] {"board -1 5 5", "board 5 5 1000001", "fault 0 8 0 0 0 0", "fault 0 0 0 0 0 -1", "worst 8 1 0",
            "counted 10", "machine 0 10"}) {
            checkUnchanged("new", fresh, call + ARGUMENT);
        }
        for (String call : new String[] {"fault 2 0 0 0 0 0", "face 2", "open 0 0", "open 0 3"}) {
            checkUnchanged("new", fresh, call + INDEX);
        }
        String[] full = {"text 1:n0<2;2:1/n3=0;3:l=1;4:", "edition 0", "text 1:f0=1;2:f2=0;3:", "edition 5",
            "text 2:w=1;3:t=1;4:(n1)=09", "edition 9", "edition 10", "board 1 2 3", "5 fault 0 0 1 1 1 1", "5 fault 1 1 2 2 2 2",
            "run 4", "run 7", "run 4", "3 machine 1 2", "unit 49", "unit 58"};
        for (String call : new String[] {"edition 11", "edition -1", "fault 0 0 0 0 0 0", "fault 0 8 0 0 0 0"}) {
            checkUnchanged("full", full, call + STATE);
        }
        for (String call : new String[] {"write -1", "board 9 9 -1", "board -1 9 9", "why -1 0", "why 1 -1", "open 0 3",
            "worst 0 9 2", "raise -1 0", "raise 1 -1", "counted -2", "machine 10 2", "machine 1 10"}) {
            checkUnchanged("full", full, call + ARGUMENT);
        }
        for (String call : new String[] {"fault 2 0 0 0 0 0", "face -1", "open 1 0", "open -1 0"}) {
            checkUnchanged("full", full, call + INDEX);
        }
        String[] open = {"text 1:n0<2;2:", "edition 3", "fault 0 0 1 1 1 1", "run 3"};
        for (String call : new String[] {"edition 3", "edition 2", "edition -1", "fault 1 0 1000001 0 0 0", "fault 1 -1 0 0 0 0"}) {
            checkUnchanged("with room", open, call + ARGUMENT);
        }
    }

    /** Two objects of one past, one of which is asked for the call that throws: then both must answer the same. */
    private static void checkUnchanged(String state, String[] past, String row) throws Exception {
        cases++;
        calls = 0;
        GradeTexts plain = new GradeTexts();
        GradeTexts asked = new GradeTexts();
        for (String call : past) {
            play(plain, call);
            play(asked, call);
        }
        int cut = row.indexOf(" -> ");
        String call = row.substring(0, cut);
        String got = play(asked, call);
        if (!got.equals(row.substring(cut + 4))) {
            wrong++;
            System.out.println(state + ": " + call + " answered " + got + ", due is " + row.substring(cut + 4));
            return;
        }
        for (String probe : PROBES.split(", ")) {
            String due = play(plain, probe);
            got = play(asked, probe);
            if (!got.equals(due)) {
                wrong++;
                System.out.println(state + ": behind " + call + ", which throws, " + probe + " answered " + got + ", due is " + due);
                return;
            }
        }
        if (calls > 2 * MOST_CALLS) {
            throw new IllegalStateException(state + ": more calls than the document promises");
        }
    }

    /** Asks for all that an object keeps, and then for what a hidden change would turn: room, days, the text. */
    private static final String PROBES = "face 0, face 1, worst 0 9 0, worst 0 9 1, worst 1 9 1, worst 2 9 0, "
        + "why 1 0, why 2 0, why 3 0, why 4 0, open 0 0, open 0 1, open 0 2, open 1 0, "
        + "raise 0 0, raise 1 0, raise 1 1, raise 1 3, raise 2 0, raise 3 0, raise 4 0, "
        + "counted -1, counted 0, counted 1, counted 2, counted 3, counted 4, counted 9, machine 1 2, machine 2 1, machine 0 0, "
        + "printed, run -1, run 0, run 4, run 5, run 8, run 9, run 11, walk 3, why 2 0, open 0 0, read, printed, "
        + "text 5:l=1;6:w=2;7:t=3, edition 2, edition 12, run -1, board 4 4 4, run -1, fault 0 0 0 0 0 0, face 0, "
        + "text 8:, run -1, run 12, clearFaults, fault 1 1 1 1 1 1, run 3";
}
