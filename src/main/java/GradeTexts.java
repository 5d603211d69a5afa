import java.util.Arrays;

/**
 * Grades of boards by texts of rules over faults.
 *
 * A text is read once: while it is read, the steps that reckon each rule are laid out in rows (run
 * and raise use them), and the characters that its printed form leaves out are marked (walk goes
 * along the printed form). Rules never change once they are read, so an edition and the latest run
 * simply keep them.
 */
public final class GradeTexts {
    public static final int NONE = -1;
    public static final int DIVISION = 1, FACE = 2;

    private static final int MOST_UNITS = 300;
    private static final int MOST_RULES = 12;
    private static final int MOST_CONDITIONS = 6;
    private static final int MOST_DIGITS = 6;
    private static final int MOST_DEPTH = 8;
    private static final int MOST_FAULTS = 10;
    private static final int MOST_EDITIONS = 4;
    private static final int MOST_SIZE = 1000000;
    private static final int FACES = 2;
    private static final int KINDS = 8;
    private static final int GRADES = 10;

    /** Every set of absent faults, a bit each. */
    private static final int SETS = 1 << MOST_FAULTS;

    /** At most two operands wait at each of nine depths, beside a condition's left side and a factor. */
    private static final int STACK_ROOM = 32;

    /** No character of a text: what stands behind its end. */
    private static final char END = 0;

    /** Steps bear the characters of the text; these two have none of their own there. */
    private static final int NUMBER = '#', NEGATE = '~';

    private final Plank plank;
    private final Reader reader;
    private final Reckoner reckoner;
    private final Walker walker;
    private final Report report;
    private final Raiser raiser;
    private Rules latest;
    private final Rules[] editions;
    private final long[] editionDays;
    private int editionCount;
    private final long[] told;
    private final int[] beside;

    public GradeTexts() {
        plank = new Plank();
        reader = new Reader();
        reckoner = new Reckoner(plank);
        walker = new Walker(plank);
        report = new Report();
        raiser = new Raiser(plank, reckoner);
        latest = null;
        editions = new Rules[MOST_EDITIONS];
        editionDays = new long[MOST_EDITIONS];
        editionCount = 0;
        told = new long[GRADES + 1];
        beside = new int[GRADES * GRADES];
    }

    public boolean unit(int u) {
        return u >= 33 && u <= 126 && reader.append((char) u);
    }

    public int read() {
        Rules found = reader.parse();
        int answer = found == null ? -1 - reader.at : found.count;
        reader.length = 0;
        if (found != null) {
            latest = found;
        }
        return answer;
    }

    public int write(int i) throws IllegalStateException, IllegalArgumentException {
        Rules rules = latest;
        if (rules == null) {
            throw new IllegalStateException("nothing was read");
        }
        if (i < 0) {
            throw new IllegalArgumentException("a place below 0");
        }
        return i < rules.printed.length ? rules.printed[i] : NONE;
    }

    public int edition(long day) throws IllegalStateException, IllegalArgumentException {
        if (latest == null) {
            throw new IllegalStateException("nothing was read");
        }
        int place = editionCount;
        if (place < 0 || place >= MOST_EDITIONS) {
            throw new IllegalStateException("no room for an edition");
        }
        if (day < 0 || place > 0 && day <= editionDays[place - 1]) {
            throw new IllegalArgumentException("not a later day");
        }
        editions[place] = latest;
        editionDays[place] = day;
        editionCount = place + 1;
        return editionCount;
    }

    public void board(int length, int width, int thick) throws IllegalArgumentException {
        if (!isSize(length) || !isSize(width) || !isSize(thick)) {
            throw new IllegalArgumentException("not 0 .. 1000000");
        }
        plank.resize(length, width, thick);
    }

    public int fault(int face, int kind, int x, int y, int w, int h)
            throws ArrayIndexOutOfBoundsException, IllegalStateException, IllegalArgumentException {
        if (!isBelow(face, FACES)) {
            throw new ArrayIndexOutOfBoundsException("no such face");
        }
        if (plank.count >= MOST_FAULTS) {
            throw new IllegalStateException("no room for a fault");
        }
        if (!isBelow(kind, KINDS) || !isSize(x) || !isSize(y) || !isSize(w) || !isSize(h)) {
            throw new IllegalArgumentException("not a fault");
        }
        plank.append(face, kind, x, y, w, h);
        return plank.count;
    }

    public void clearFaults() {
        plank.empty();
    }

    public int face(int k) throws ArrayIndexOutOfBoundsException {
        if (!isBelow(k, FACES)) {
            throw new ArrayIndexOutOfBoundsException("no such face");
        }
        return plank.onFace(k, 0);
    }

    public int run(long day) throws IllegalStateException {
        Rules rules = rulesOn(day);
        if (rules == null) {
            throw new IllegalStateException("nothing was read");
        }
        int grade = report.take(rules, reckoner);
        if (isBelow(grade + 1, told.length)) {
            told[grade + 1]++;
        }
        return grade;
    }

    public int walk(long day) throws IllegalStateException {
        Rules rules = rulesOn(day);
        if (rules == null) {
            throw new IllegalStateException("nothing was read");
        }
        walker.begin(rules);
        for (int r = 0; r < rules.count && r < MOST_RULES; r++) {
            if (walker.passRule()) {
                return rules.grades[r];
            }
        }
        return NONE;
    }

    public int why(int grade, int k) throws IllegalStateException, IllegalArgumentException {
        if (report.rules == null) {
            throw new IllegalStateException("nothing was run");
        }
        if (!isBelow(grade, GRADES) || k < 0) {
            throw new IllegalArgumentException("no such grade or number");
        }
        return report.heldOf(grade, k);
    }

    public int open(int k, int what) throws ArrayIndexOutOfBoundsException, IllegalArgumentException {
        if (!isBelow(k, report.openCount) || !isBelow(k, MOST_RULES)) {
            throw new ArrayIndexOutOfBoundsException("not so many open rules");
        }
        switch (what) {
            case 0:
                return report.openRules[k];
            case 1:
                return report.openConditions[k];
            case 2:
                return report.openCauses[k];
            default:
                throw new IllegalArgumentException("what is not 0 .. 2");
        }
    }

    public long worst(int kind, int length, int part) throws IllegalArgumentException {
        if (!isBelow(kind, KINDS) || !isBelow(part, 2)) {
            throw new IllegalArgumentException("no such kind or part");
        }
        return plank.worstIn(kind, length, part, 0);
    }

    public int raise(int grade, int k) throws IllegalStateException, IllegalArgumentException {
        Rules rules = report.rules;
        if (rules == null) {
            throw new IllegalStateException("nothing was run");
        }
        if (!isBelow(grade, GRADES) || k < 0) {
            throw new IllegalArgumentException("no such grade or number");
        }
        int size = raiser.fewest(rules, grade);
        return k < size && k < MOST_FAULTS ? raiser.picks[k] : NONE;
    }

    public int appeal(int personA, int gradeA, int personB, int gradeB) {
        if (personA == personB) {
            return 2;
        }
        return gradeA != gradeB ? 1 : 0;
    }

    public long counted(int grade) throws IllegalArgumentException {
        if (grade < NONE || grade >= GRADES) {
            throw new IllegalArgumentException("grade is not NONE .. 9");
        }
        return told[grade + 1];
    }

    public int machine(int grade, int eye) throws IllegalArgumentException {
        if (!isBelow(grade, GRADES) || !isBelow(eye, GRADES)) {
            throw new IllegalArgumentException("a grade is not 0 .. 9");
        }
        int place = grade * GRADES + eye;
        beside[place]++;
        return beside[place];
    }

    private static boolean isBelow(int number, int bound) {
        return number >= 0 && number < bound;
    }

    private static boolean isSize(int number) {
        return number >= 0 && number <= MOST_SIZE;
    }

    /** Days rise from edition to edition, so the last one that fits is the latest. */
    private Rules rulesOn(long day) {
        Rules found = latest;
        for (int i = 0; i < editionCount && i < MOST_EDITIONS; i++) {
            if (editionDays[i] <= day) {
                found = editions[i];
            }
        }
        return found;
    }

    /** The board. What it tells leaves out the absent faults, a bit each, so that raise can ask "without these". */
    private static final class Plank {
        int length;
        int width;
        int thick;
        int count;
        /** Grows with each change, so that what was reckoned before can be known to be stale. */
        int changes;
        final int[] faces = new int[MOST_FAULTS];
        final int[] kinds = new int[MOST_FAULTS];
        final int[] xs = new int[MOST_FAULTS];
        final int[] ys = new int[MOST_FAULTS];
        final int[] ws = new int[MOST_FAULTS];
        final int[] hs = new int[MOST_FAULTS];

        void resize(int newLength, int newWidth, int newThick) {
            length = newLength;
            width = newWidth;
            thick = newThick;
            changes++;
        }

        void append(int face, int kind, int x, int y, int w, int h) {
            int i = count;
            if (!isBelow(i, MOST_FAULTS)) {
                return;
            }
            faces[i] = face;
            kinds[i] = kind;
            xs[i] = x;
            ys[i] = y;
            ws[i] = w;
            hs[i] = h;
            count = i + 1;
            changes++;
        }

        void empty() {
            count = 0;
            changes++;
        }

        int onFace(int face, int absent) {
            int number = 0;
            for (int i = 0; i < count && i < MOST_FAULTS; i++) {
                if (faces[i] == face && (absent >>> i & 1) == 0) {
                    number++;
                }
            }
            return number;
        }

        /** What the letters l, w, t and, of a kind, n, a, s, e tell. */
        long measure(int letter, int kind, int absent) {
            if (letter == 'l') {
                return length;
            }
            if (letter == 'w') {
                return width;
            }
            if (letter == 't') {
                return thick;
            }
            // y and h are never below 0, so no fault's margin is above WIDTH
            long value = letter == 'e' ? width : 0;
            for (int i = 0; i < count && i < MOST_FAULTS; i++) {
                if (kinds[i] != kind || (absent >>> i & 1) != 0) {
                    continue;
                }
                if (letter == 'n') {
                    value++;
                } else if (letter == 'a') {
                    value += (long) ws[i] * hs[i];
                } else if (letter == 's') {
                    value = Math.max(value, Math.max(ws[i], hs[i]));
                } else {
                    value = Math.min(value, Math.min(ys[i], width - ys[i] - hs[i]));
                }
            }
            return value;
        }

        /** A window can be moved on until it begins at a fault of the kind, without losing any. */
        long worstIn(int kind, long span, int part, int absent) {
            long most = 0;
            for (int i = 0; i < count && i < MOST_FAULTS; i++) {
                if (kinds[i] == kind && (absent >>> i & 1) == 0) {
                    most = Math.max(most, inWindow(xs[i], kind, span, part, absent));
                }
            }
            return most;
        }

        private long inWindow(int from, int kind, long span, int part, int absent) {
            long sum = 0;
            for (int i = 0; i < count && i < MOST_FAULTS; i++) {
                boolean there = kinds[i] == kind && (absent >>> i & 1) == 0;
                // the distance is compared, for from + span could wrap
                if (there && xs[i] >= from && xs[i] - from < span) {
                    sum += part == 0 ? 1 : (long) ws[i] * hs[i];
                }
            }
            return sum;
        }
    }

    /** The rules of one text: the steps of rule r go from firsts[r] up to firsts[r + 1]. */
    private static final class Rules {
        int count;
        int stepCount;
        final int[] grades = new int[MOST_RULES];
        final int[] firsts = new int[MOST_RULES + 1];
        final int[] acts;
        final int[] operands;
        char[] printed = new char[0];

        /** Each step stands for a character of its own, so a text never has more steps than characters. */
        Rules(int room) {
            int steps = Math.max(room, 0);
            acts = new int[steps];
            operands = new int[steps];
        }

        void beginRule(int grade) {
            if (isBelow(count, MOST_RULES)) {
                grades[count] = grade;
                firsts[count] = stepCount;
                count++;
                firsts[count] = stepCount;
            }
        }

        void addStep(int act, int operand) {
            if (isBelow(stepCount, acts.length) && stepCount < operands.length && isBelow(count, firsts.length)) {
                acts[stepCount] = act;
                operands[stepCount] = operand;
                stepCount++;
                firsts[count] = stepCount;
            }
        }
    }

    /** A place in a row of characters. */
    private abstract static class Cursor {
        char[] units;
        int length;
        int at;

        Cursor(char[] units) {
            this.units = units;
        }

        char here() {
            return at >= 0 && at < length && at < units.length ? units[at] : END;
        }

        /** The digit that stands here, passed, if it is below a bound; NONE, if another character stands here. */
        int passDigit(int bound) {
            int digit = here() - '0';
            if (digit < 0 || digit >= bound) {
                return NONE;
            }
            at++;
            return digit;
        }

        /** A seventh digit stays where it is: nothing that may follow a number is a digit. */
        int passNumber() {
            int number = 0;
            for (int i = 0; i < MOST_DIGITS && here() >= '0' && here() <= '9'; i++) {
                number = number * 10 + (here() - '0');
                at++;
            }
            return number;
        }

        /**
         * Passes what stands before a factor: -, f, and c with its kind. Their row may be as long as the
         * text, so it is no recursion. False at a c without a kind.
         */
        boolean passPrefixes() {
            for (int i = 0; i < MOST_UNITS; i++) {
                char unit = here();
                if (unit != '-' && unit != 'f' && unit != 'c') {
                    break;
                }
                at++;
                if (unit == 'c' && passDigit(KINDS) == NONE) {
                    return false;
                }
            }
            return true;
        }
    }

    /** Reads a text; each of its methods stops at the first character that can't be there. */
    private static final class Reader extends Cursor {
        /** What an expression is, once the ( ) around it are gone. */
        private static final int WRONG = -1, FACTOR = 0, PRODUCT = 1, SUM = 2;

        private final boolean[] dropped = new boolean[MOST_UNITS];
        private Rules rules = new Rules(0);

        Reader() {
            super(new char[MOST_UNITS]);
        }

        boolean append(char unit) {
            if (length >= MOST_UNITS || !isBelow(length, units.length)) {
                return false;
            }
            units[length] = unit;
            setDropped(length, false);
            length++;
            return true;
        }

        /** The rules; null if the text breaks off where the place then is. */
        Rules parse() {
            at = 0;
            rules = new Rules(length);
            for (int r = 0; r < MOST_RULES; r++) {
                if (!parseRule()) {
                    return null;
                }
                if (at == length) {
                    rules.printed = printedUnits();
                    return rules;
                }
                if (here() != ';' || r + 1 == MOST_RULES) {
                    return null;
                }
                at++;
            }
            return null;
        }

        private boolean parseRule() {
            int grade = passDigit(GRADES);
            if (grade == NONE || here() != ':') {
                return false;
            }
            at++;
            rules.beginRule(grade);
            if (at == length || here() == ';') {
                return true;
            }
            for (int c = 0; c < MOST_CONDITIONS; c++) {
                if (!parseCondition()) {
                    return false;
                }
                if (here() != ',' || c + 1 == MOST_CONDITIONS) {
                    return true;
                }
                at++;
            }
            return true;
        }

        private boolean parseCondition() {
            if (parseExpression(0) == WRONG) {
                return false;
            }
            char relation = here();
            if (relation != '<' && relation != '>' && relation != '=' && relation != '!') {
                return false;
            }
            at++;
            if (parseExpression(0) == WRONG) {
                return false;
            }
            rules.addStep(relation, 0);
            return true;
        }

        private int parseExpression(int depth) {
            int shape = parseTerm(depth, false);
            for (int i = 0; i < MOST_UNITS && shape != WRONG; i++) {
                char sign = here();
                if (sign != '+' && sign != '-') {
                    break;
                }
                at++;
                shape = parseTerm(depth, true) == WRONG ? WRONG : SUM;
                rules.addStep(sign, 0);
            }
            return shape;
        }

        private int parseTerm(int depth, boolean behindSign) {
            int start = at;
            int shape = parseFactor(depth);
            // only here is it known whether the first factor's own ( ) are needed
            if (shape == SUM && (behindSign || here() == '*' || here() == '/')) {
                keepParentheses(start);
                shape = FACTOR;
            }
            for (int i = 0; i < MOST_UNITS && shape != WRONG; i++) {
                char sign = here();
                if (sign != '*' && sign != '/') {
                    break;
                }
                at++;
                shape = parseLaterFactor(depth) == WRONG ? WRONG : PRODUCT;
                rules.addStep(sign, 0);
            }
            return shape;
        }

        /** A factor behind * or / keeps the ( ) around a sum or a product. */
        private int parseLaterFactor(int depth) {
            int start = at;
            int shape = parseFactor(depth);
            if (shape == SUM || shape == PRODUCT) {
                keepParentheses(start);
            }
            return shape;
        }

        private int parseFactor(int depth) {
            int first = at;
            if (!passPrefixes()) {
                return WRONG;
            }
            int start = at;
            int shape = parseBare(depth);
            if (shape == WRONG || start == first) {
                return shape;
            }
            if (shape != FACTOR) {
                keepParentheses(start);
            }
            addPrefixSteps(first, start);
            return FACTOR;
        }

        /** A factor without anything before it. */
        private int parseBare(int depth) {
            char unit = here();
            if (unit == '(') {
                return parseParentheses(depth);
            }
            return unit >= '0' && unit <= '9' ? parseNumber() : parseLetter(unit);
        }

        /** The ( ) are left out until something around them needs them. */
        private int parseParentheses(int depth) {
            if (depth >= MOST_DEPTH) {
                return WRONG;
            }
            int start = at;
            at++;
            int shape = parseExpression(depth + 1);
            if (shape == WRONG || here() != ')') {
                return WRONG;
            }
            setDropped(start, true);
            setDropped(at, true);
            at++;
            return shape;
        }

        private int parseNumber() {
            int start = at;
            rules.addStep(NUMBER, passNumber());
            for (int i = start; i < at - 1 && isBelow(i, units.length) && units[i] == '0'; i++) {
                setDropped(i, true);
            }
            return FACTOR;
        }

        private int parseLetter(char unit) {
            boolean ofBoard = unit == 'l' || unit == 'w' || unit == 't';
            boolean ofKind = unit == 'n' || unit == 'a' || unit == 's' || unit == 'e';
            if (!ofBoard && !ofKind) {
                return WRONG;
            }
            at++;
            int kind = ofKind ? passDigit(KINDS) : 0;
            rules.addStep(unit, kind);
            return kind == NONE ? WRONG : FACTOR;
        }

        /** The prefix that stands nearest to the factor acts first. */
        private void addPrefixSteps(int first, int end) {
            for (int i = end - 1; i >= first && isBelow(i, units.length); i--) {
                char unit = units[i];
                if (unit == '-') {
                    rules.addStep(NEGATE, 0);
                } else if (unit == 'f') {
                    rules.addStep('f', 0);
                } else {
                    // a digit: the kind of the c before it
                    rules.addStep('c', unit - '0');
                    i--;
                }
            }
        }

        /** The factor that was just read goes from its ( to the ) before this place. */
        private void keepParentheses(int start) {
            setDropped(start, false);
            setDropped(at - 1, false);
        }

        private void setDropped(int place, boolean value) {
            if (isBelow(place, MOST_UNITS)) {
                dropped[place] = value;
            }
        }

        private char[] printedUnits() {
            int end = Math.min(length, Math.min(units.length, MOST_UNITS));
            int kept = 0;
            for (int i = 0; i < end; i++) {
                kept += dropped[i] ? 0 : 1;
            }
            char[] printed = new char[kept];
            int next = 0;
            for (int i = 0; i < end; i++) {
                if (!dropped[i] && next < kept) {
                    printed[next] = units[i];
                    next++;
                }
            }
            return printed;
        }
    }

    /** Reckons the steps of a rule one behind the other. */
    private static final class Reckoner {
        private final Plank plank;
        private final long[] stack = new long[STACK_ROOM];
        private int top;
        /** Of the rule that was reckoned last: how many conditions held, and DIVISION or FACE if it is OPEN. */
        int held;
        int cause;

        Reckoner(Plank plank) {
            this.plank = plank;
        }

        boolean holds(Rules rules, int rule, int absent) {
            top = 0;
            held = 0;
            cause = 0;
            if (!isBelow(rule, MOST_RULES)) {
                return false;
            }
            int end = Math.min(rules.firsts[rule + 1], rules.stepCount);
            for (int i = rules.firsts[rule]; i < end; i++) {
                if (!isBelow(i, rules.acts.length) || i >= rules.operands.length) {
                    return false;
                }
                int act = rules.acts[i];
                if (act == '<' || act == '>' || act == '=' || act == '!') {
                    long right = pop();
                    if (!compare(act, pop(), right)) {
                        return false;
                    }
                    held++;
                } else {
                    reckonStep(act, rules.operands[i], absent);
                }
                if (cause != 0) {
                    return false;
                }
            }
            return true;
        }

        static boolean compare(int relation, long left, long right) {
            switch (relation) {
                case '<':
                    return left < right;
                case '>':
                    return left > right;
                case '=':
                    return left == right;
                default:
                    return left != right;
            }
        }

        private void reckonStep(int act, int operand, int absent) {
            switch (act) {
                case NUMBER:
                    push(operand);
                    break;
                case NEGATE:
                    push(-pop());
                    break;
                case 'c':
                    push(plank.worstIn(operand, pop(), 0, absent));
                    break;
                case 'f':
                    push(faultsOn(pop(), absent));
                    break;
                case '+':
                case '-':
                case '*':
                case '/':
                    long right = pop();
                    push(combine(act, pop(), right));
                    break;
                default:
                    push(plank.measure(act, operand, absent));
                    break;
            }
        }

        private long combine(int sign, long left, long right) {
            switch (sign) {
                case '+':
                    return left + right;
                case '-':
                    return left - right;
                case '*':
                    return left * right;
                default:
                    if (right == 0) {
                        cause = DIVISION;
                        return 0;
                    }
                    return left / right;
            }
        }

        private long faultsOn(long number, int absent) {
            int face = (int) number;
            if (!isBelow(face, FACES)) {
                cause = FACE;
                return 0;
            }
            return plank.onFace(face, absent);
        }

        private void push(long value) {
            if (isBelow(top, STACK_ROOM)) {
                stack[top] = value;
                top++;
            }
        }

        private long pop() {
            if (top < 1 || top > STACK_ROOM) {
                return 0;
            }
            top--;
            return stack[top];
        }
    }

    /** Reckons rules along their printed text, without the steps. */
    private static final class Walker extends Cursor {
        private final Plank plank;
        private boolean isOpen;

        Walker(Plank plank) {
            super(new char[0]);
            this.plank = plank;
        }

        void begin(Rules rules) {
            units = rules.printed;
            length = units.length;
            at = 0;
        }

        /** Whether the rule that begins here holds; the next rule is here then. */
        boolean passRule() {
            isOpen = false;
            at += 2;
            boolean holds = at >= length || here() == ';';
            for (int c = 0; c < MOST_CONDITIONS && !holds; c++) {
                if (!walkCondition()) {
                    break;
                }
                if (here() == ',') {
                    at++;
                } else {
                    holds = true;
                }
            }
            skipRule();
            return holds;
        }

        private void skipRule() {
            for (int i = 0; i < MOST_UNITS && at < length && here() != ';'; i++) {
                at++;
            }
            at++;
        }

        private boolean walkCondition() {
            long left = walkExpression(0);
            char relation = here();
            if (isOpen) {
                return false;
            }
            at++;
            long right = walkExpression(0);
            return !isOpen && Reckoner.compare(relation, left, right);
        }

        private long walkExpression(int depth) {
            long value = walkTerm(depth);
            for (int i = 0; i < MOST_UNITS && !isOpen; i++) {
                char sign = here();
                if (sign != '+' && sign != '-') {
                    break;
                }
                at++;
                long next = walkTerm(depth);
                value = sign == '+' ? value + next : value - next;
            }
            return value;
        }

        private long walkTerm(int depth) {
            long value = walkFactor(depth);
            for (int i = 0; i < MOST_UNITS && !isOpen; i++) {
                char sign = here();
                if (sign != '*' && sign != '/') {
                    break;
                }
                at++;
                long next = walkFactor(depth);
                if (sign == '*') {
                    value = value * next;
                } else if (next != 0) {
                    value = value / next;
                } else {
                    isOpen = true;
                }
            }
            return value;
        }

        private long walkFactor(int depth) {
            int first = at;
            passPrefixes();
            int end = at;
            char unit = here();
            long value = 0;
            if (unit == '(') {
                at++;
                // a text that was read is never deeper
                value = depth < MOST_DEPTH ? walkExpression(depth + 1) : 0;
                at++;
            } else if (unit >= '0' && unit <= '9') {
                value = passNumber();
            } else {
                at++;
                boolean ofKind = unit != 'l' && unit != 'w' && unit != 't';
                value = plank.measure(unit, ofKind ? passDigit(KINDS) : 0, 0);
            }
            return applyPrefixes(first, end, value);
        }

        private long applyPrefixes(int first, int end, long factor) {
            long value = factor;
            for (int i = end - 1; i >= first && isBelow(i, units.length) && !isOpen; i--) {
                char unit = units[i];
                if (unit == '-') {
                    value = -value;
                } else if (unit == 'f') {
                    int face = (int) value;
                    isOpen = !isBelow(face, FACES);
                    value = plank.onFace(face, 0);
                } else {
                    // a digit: the kind of the c before it
                    value = plank.worstIn(unit - '0', value, 0, 0);
                    i--;
                }
            }
            return value;
        }
    }

    /** What the latest run came to. */
    private static final class Report {
        Rules rules;
        int openCount;
        final int[] openRules = new int[MOST_RULES];
        final int[] openConditions = new int[MOST_RULES];
        final int[] openCauses = new int[MOST_RULES];
        private int reached;
        private final int[] held = new int[MOST_RULES];

        int take(Rules asked, Reckoner reckoner) {
            rules = asked;
            reached = 0;
            openCount = 0;
            for (int r = 0; r < asked.count && r < MOST_RULES; r++) {
                boolean holds = reckoner.holds(asked, r, 0);
                held[r] = reckoner.held;
                reached = r + 1;
                if (holds) {
                    return asked.grades[r];
                }
                if (reckoner.cause != 0) {
                    addOpen(r, reckoner.held, reckoner.cause);
                }
            }
            return NONE;
        }

        private void addOpen(int rule, int condition, int cause) {
            if (isBelow(openCount, MOST_RULES)) {
                openRules[openCount] = rule;
                openConditions[openCount] = condition;
                openCauses[openCount] = cause;
                openCount++;
            }
        }

        int heldOf(int grade, int k) {
            int left = k;
            for (int r = 0; rules != null && r < reached && r < MOST_RULES; r++) {
                if (rules.grades[r] != grade) {
                    continue;
                }
                if (left == 0) {
                    return held[r];
                }
                left--;
            }
            return NONE;
        }
    }

    /** Looks for the fewest faults without which a board gets a grade. */
    private static final class Raiser {
        private static final int NOT_YET = -2;

        private final Plank plank;
        private final Reckoner reckoner;
        /** A caller asks for one fault after the other: the grades of all sets are kept while nothing changes. */
        private final int[] grades = new int[SETS];
        private Rules rules = new Rules(0);
        private int changes = -1;
        /** The faults of the set that is looked at, or was found, from the least number on. */
        final int[] picks = new int[MOST_FAULTS];

        Raiser(Plank plank, Reckoner reckoner) {
            this.plank = plank;
            this.reckoner = reckoner;
        }

        /** How many faults, which are the picks then; NONE if no set will do. */
        int fewest(Rules asked, int grade) {
            if (rules != asked || changes != plank.changes) {
                rules = asked;
                changes = plank.changes;
                Arrays.fill(grades, NOT_YET);
            }
            for (int size = 0; size <= plank.count && size <= MOST_FAULTS; size++) {
                if (findSet(size, grade)) {
                    return size;
                }
            }
            return NONE;
        }

        private boolean findSet(int size, int grade) {
            for (int i = 0; i < size && i < MOST_FAULTS; i++) {
                picks[i] = i;
            }
            boolean more = true;
            for (int n = 0; n < SETS && more; n++) {
                if (gradeWithout(picksAsBits(size)) == grade) {
                    return true;
                }
                more = moveOn(size);
            }
            return false;
        }

        /** The next set of this size, one by one from the first number; false behind the last one. */
        private boolean moveOn(int size) {
            for (int i = size - 1; isBelow(i, MOST_FAULTS); i--) {
                if (picks[i] < plank.count - size + i) {
                    picks[i]++;
                    for (int j = i + 1; j < size && j < MOST_FAULTS; j++) {
                        picks[j] = picks[j - 1] + 1;
                    }
                    return true;
                }
            }
            return false;
        }

        private int picksAsBits(int size) {
            int bits = 0;
            for (int i = 0; i < size && i < MOST_FAULTS; i++) {
                bits |= 1 << picks[i];
            }
            return bits;
        }

        private int gradeWithout(int absent) {
            if (!isBelow(absent, SETS)) {
                return NONE;
            }
            if (grades[absent] == NOT_YET) {
                grades[absent] = NONE;
                for (int r = 0; r < rules.count && r < MOST_RULES && grades[absent] == NONE; r++) {
                    if (reckoner.holds(rules, r, absent)) {
                        grades[absent] = rules.grades[r];
                    }
                }
            }
            return grades[absent];
        }
    }
}
