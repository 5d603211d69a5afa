import java.lang.reflect.InvocationTargetException;
import java.lang.reflect.Method;
import java.util.ArrayList;
import java.util.Arrays;
import java.util.List;
import java.util.Random;

/**
 * Long runs of calls, made by a seeded generator, on GradeTexts and on a plain second writing of the
 * document (a machine of states that finds the first wrong character, a tree that is reckoned and
 * printed, all sets of faults one by one). Every answer must be the same.
 */
public final class OracleTests {
    private static final int OBJECTS = 6000;
    private static final int CALLS = 512;

    private static int wrong = 0;

    public static void main(String[] args) throws Exception {
        for (int seed = 0; seed < OBJECTS && wrong < 10; seed++) {
            new Game(seed).play();
        }
        System.out.println(wrong == 0 ? "all answers are as due" : wrong + " objects answered otherwise");
        if (wrong != 0) {
            System.exit(1);
        }
    }

    /** One object beside its oracle. */
    private static final class Game {
        final int seed;
        final Random random;
        final GradeTexts real = new GradeTexts();
        final Oracle oracle = new Oracle();
        final List<String> log = new ArrayList<>();
        int calls = 0;
        boolean failed = false;

        Game(int seed) {
            this.seed = seed;
            this.random = new Random(seed);
        }

        void play() throws Exception {
            while (calls < CALLS && !failed) {
                switch (random.nextInt(14)) {
                    case 0:
                    case 1:
                        feed(new Maker(random).text());
                        break;
                    case 2:
                        writeSome();
                        break;
                    case 3:
                        ask("board", size(), size(), size());
                        break;
                    case 4:
                    case 5:
                        ask("fault", among(-1, 2), among(-1, 8), size(), size(), size(), size());
                        break;
                    case 6:
                        if (random.nextInt(4) == 0) {
                            ask("clearFaults");
                        }
                        ask("face", among(-1, 2));
                        break;
                    case 7:
                    case 8:
                        ask("run", day());
                        ask("walk", day());
                        break;
                    case 9:
                        for (int i = 0; i < 4; i++) {
                            ask("why", among(-1, 10), among(-1, 3));
                            ask("open", among(-1, 4), among(-1, 3));
                        }
                        break;
                    case 10:
                        ask("worst", among(-1, 8), random.nextBoolean() ? among(-3, 30) : random.nextInt(), among(-1, 2));
                        break;
                    case 11:
                        int grade = among(-1, 10);
                        for (int k = -1; k < 4; k++) {
                            ask("raise", grade, k);
                        }
                        break;
                    case 12:
                        ask("edition", day());
                        ask("counted", among(-2, 10));
                        break;
                    default:
                        ask("machine", among(-1, 10), among(-1, 10));
                        ask("appeal", among(0, 2), among(0, 2), among(0, 2), among(0, 2));
                        break;
                }
            }
        }

        void feed(String text) throws Exception {
            for (int i = 0; i < text.length(); i++) {
                ask("unit", text.charAt(i));
            }
            ask("read");
        }

        void writeSome() throws Exception {
            int length = oracle.printed == null ? 1 : oracle.printed.length();
            if (random.nextBoolean()) {
                ask("write", among(-1, length + 1));
                return;
            }
            for (int i = 0; i <= length; i++) {
                ask("write", i);
            }
        }

        int among(int least, int most) {
            return least + random.nextInt(most - least + 1);
        }

        int size() {
            switch (random.nextInt(30)) {
                case 0:
                    return 1000000;
                case 1:
                    return 1000001;
                case 2:
                    return -1;
                default:
                    return random.nextInt(20);
            }
        }

        long day() {
            return random.nextInt(20) == 0 ? random.nextLong() : random.nextInt(14) - 1;
        }

        void ask(String name, long... args) throws Exception {
            if (calls >= CALLS || failed) {
                return;
            }
            calls++;
            String got = answer(real, name, args);
            String due = answer(oracle, name, args);
            log.add(name + Arrays.toString(args) + " -> " + got);
            if (!got.equals(due)) {
                failed = true;
                wrong++;
                System.out.println("object " + seed + ": " + name + Arrays.toString(args) + " answered " + got + ", due is " + due);
                for (String line : log.subList(Math.max(0, log.size() - 340), log.size())) {
                    System.out.println("    " + line);
                }
            }
        }
    }

    private static String answer(Object object, String name, long[] args) throws Exception {
        for (Method method : object.getClass().getDeclaredMethods()) {
            if (!method.getName().equals(name)) {
                continue;
            }
            Object[] given = new Object[args.length];
            for (int i = 0; i < args.length; i++) {
                given[i] = method.getParameterTypes()[i] == long.class ? (Object) args[i] : (Object) (int) args[i];
            }
            try {
                return String.valueOf(method.invoke(object, given));
            } catch (InvocationTargetException e) {
                boolean byMachine = object instanceof GradeTexts && isOfMachine(e.getCause());
                return (byMachine ? "the machine throws " : "throws ") + e.getCause().getClass().getName();
            }
        }
        throw new IllegalStateException("no method " + name);
    }

    /** The class writes a text into each exception; an index that the machine refuses has the machine's, or none. */
    private static boolean isOfMachine(Throwable thrown) {
        return thrown.getMessage() == null || thrown.getMessage().startsWith("Index ");
    }

    /** Texts of the grammar, with ( ) and zeros that nobody needs, and now and then a wrong character. */
    private static final class Maker {
        final Random random;
        int budget;

        Maker(Random random) {
            this.random = random;
            this.budget = 5 + random.nextInt(60);
        }

        String text() {
            int rules = 1 + (random.nextInt(8) == 0 ? random.nextInt(13) : random.nextInt(4));
            StringBuilder made = new StringBuilder();
            for (int r = 0; r < rules; r++) {
                made.append(r == 0 ? "" : ";").append(random.nextInt(random.nextBoolean() ? 10 : 3)).append(':');
                int conditions = random.nextInt(10) == 0 ? random.nextInt(8) : random.nextInt(3);
                for (int c = 0; c < conditions; c++) {
                    made.append(c == 0 ? "" : ",").append(expression(0)).append("<>=!".charAt(random.nextInt(4))).append(expression(0));
                }
            }
            for (int i = random.nextInt(6) == 0 ? 1 + random.nextInt(2) : 0; i > 0 && made.length() > 0; i--) {
                spoil(made);
            }
            return made.toString();
        }

        void spoil(StringBuilder text) {
            int place = random.nextInt(text.length());
            char unit = "0123456789lwtnasecf-+*/()<>=!,;:x~".charAt(random.nextInt(34));
            switch (random.nextInt(4)) {
                case 0:
                    text.insert(place, unit);
                    break;
                case 1:
                    text.setCharAt(place, unit);
                    break;
                case 2:
                    text.deleteCharAt(place);
                    break;
                default:
                    text.setLength(place);
                    break;
            }
        }

        String expression(int depth) {
            String made = term(depth);
            while (random.nextInt(3) == 0 && budget > 0) {
                made += "+-".charAt(random.nextInt(2)) + term(depth);
            }
            return made;
        }

        String term(int depth) {
            String made = factor(depth);
            while (random.nextInt(3) == 0 && budget > 0) {
                made += "*/".charAt(random.nextInt(2)) + factor(depth);
            }
            return made;
        }

        String factor(int depth) {
            budget--;
            String before = "";
            while (random.nextInt(6) == 0) {
                int which = random.nextInt(3);
                before += which == 0 ? "-" : which == 1 ? "f" : "c" + random.nextInt(3);
            }
            return before + bare(depth);
        }

        String bare(int depth) {
            if (budget > 0 && depth < 9 && random.nextInt(depth == 0 ? 4 : 2) == 0) {
                return "(" + expression(depth + 1) + ")";
            }
            switch (random.nextInt(4)) {
                case 0:
                    return "" + "lwt".charAt(random.nextInt(3));
                case 1:
                case 2:
                    return "" + "nase".charAt(random.nextInt(4)) + random.nextInt(3);
                default:
                    return number();
            }
        }

        String number() {
            switch (random.nextInt(6)) {
                case 0:
                    return "00" + random.nextInt(3);
                case 1:
                    return "" + random.nextInt(1000000);
                case 2:
                    return "65536";
                default:
                    return "" + random.nextInt(12);
            }
        }
    }

    /** What can't be reckoned. */
    private static final class Open extends Exception {
        private static final long serialVersionUID = 1L;
        final int cause;

        Open(int cause) {
            this.cause = cause;
        }
    }

    private static final class Fault {
        final int face, kind, x, y, w, h;

        Fault(int face, int kind, int x, int y, int w, int h) {
            this.face = face;
            this.kind = kind;
            this.x = x;
            this.y = y;
            this.w = w;
            this.h = h;
        }

        long area() {
            return (long) w * h;
        }
    }

    /** A node of a tree: act is a sign, a letter, '~' (less than nothing) or '#' (a number). */
    private static final class Node {
        final char act;
        final int number;
        final Node left, right;

        Node(char act, int number, Node left, Node right) {
            this.act = act;
            this.number = number;
            this.left = left;
            this.right = right;
        }

        boolean isSum() {
            return act == '+' || act == '-';
        }

        boolean isProduct() {
            return act == '*' || act == '/';
        }

        String print() {
            switch (act) {
                case '#':
                    return "" + number;
                case 'l':
                case 'w':
                case 't':
                    return "" + act;
                case 'n':
                case 'a':
                case 's':
                case 'e':
                    return "" + act + number;
                case '~':
                    return "-" + around(left, left.isSum() || left.isProduct());
                case 'f':
                    return "f" + around(left, left.isSum() || left.isProduct());
                case 'c':
                    return "c" + number + around(left, left.isSum() || left.isProduct());
                case '+':
                case '-':
                    return left.print() + act + around(right, right.isSum());
                default:
                    return around(left, left.isSum()) + act + around(right, right.isSum() || right.isProduct());
            }
        }

        static String around(Node node, boolean needed) {
            return needed ? "(" + node.print() + ")" : node.print();
        }
    }

    private static final class Condition {
        Node left, right;
        char relation;
    }

    private static final class Rule {
        int grade;
        final List<Condition> conditions = new ArrayList<>();
    }

    /** A tree out of a text that is known to be right. */
    private static final class Grower {
        final String text;
        int at = 0;

        Grower(String text) {
            this.text = text + "$";
        }

        List<Rule> rules() {
            List<Rule> rules = new ArrayList<>();
            do {
                Rule rule = new Rule();
                rule.grade = text.charAt(at) - '0';
                at += 2;
                if (text.charAt(at) != ';' && text.charAt(at) != '$') {
                    do {
                        Condition condition = new Condition();
                        condition.left = sum();
                        condition.relation = text.charAt(at++);
                        condition.right = sum();
                        rule.conditions.add(condition);
                    } while (text.charAt(at++) == ',');
                    at--;
                }
                rules.add(rule);
            } while (text.charAt(at++) == ';');
            return rules;
        }

        Node sum() {
            Node node = product();
            while ("+-".indexOf(text.charAt(at)) >= 0) {
                char act = text.charAt(at++);
                node = new Node(act, 0, node, product());
            }
            return node;
        }

        Node product() {
            Node node = factor();
            while ("*/".indexOf(text.charAt(at)) >= 0) {
                char act = text.charAt(at++);
                node = new Node(act, 0, node, factor());
            }
            return node;
        }

        Node factor() {
            char unit = text.charAt(at++);
            switch (unit) {
                case '(':
                    Node inside = sum();
                    at++;
                    return inside;
                case '-':
                    return new Node('~', 0, factor(), null);
                case 'f':
                    return new Node('f', 0, factor(), null);
                case 'c':
                    int kind = text.charAt(at++) - '0';
                    return new Node('c', kind, factor(), null);
                case 'l':
                case 'w':
                case 't':
                    return new Node(unit, 0, null, null);
                case 'n':
                case 'a':
                case 's':
                case 'e':
                    return new Node(unit, text.charAt(at++) - '0', null, null);
                default:
                    int start = at - 1;
                    while (Character.isDigit(text.charAt(at))) {
                        at++;
                    }
                    return new Node('#', Integer.parseInt(text.substring(start, at)), null, null);
            }
        }
    }

    /** The document, written a second time. Public methods alone, so that they are called like those of the class. */
    public static final class Oracle {
        private String text = "";
        private List<Rule> latest = null;
        String printed = null;
        private final List<List<Rule>> editions = new ArrayList<>();
        private final List<Long> days = new ArrayList<>();
        private int length, width, thick;
        private List<Fault> faults = new ArrayList<>();
        private List<Rule> ran = null;
        private final List<Integer> held = new ArrayList<>();
        private final List<int[]> opens = new ArrayList<>();
        private final long[] told = new long[11];
        private final int[][] beside = new int[10][10];

        public boolean unit(int u) {
            if (u < 33 || u > 126 || text.length() == 300) {
                return false;
            }
            text += (char) u;
            return true;
        }

        public int read() {
            String given = text;
            text = "";
            int place = firstWrong(given);
            if (place >= 0) {
                return -1 - place;
            }
            latest = new Grower(given).rules();
            StringBuilder made = new StringBuilder();
            for (Rule rule : latest) {
                made.append(made.length() == 0 ? "" : ";").append(rule.grade).append(':');
                for (int c = 0; c < rule.conditions.size(); c++) {
                    Condition condition = rule.conditions.get(c);
                    made.append(c == 0 ? "" : ",").append(condition.left.print()).append(condition.relation).append(condition.right.print());
                }
            }
            printed = made.toString();
            return latest.size();
        }

        /**
         * The place of the first wrong character, or -1. States: G a grade, D the :, B an expression or the
         * rule's end, X a factor, K the kind of a letter, C the kind of a c, N within a number, Y behind a factor.
         */
        private static int firstWrong(String given) {
            char state = 'G';
            int rules = 1, conditions = 0, digits = 0, depth = 0;
            boolean rightSide = false;
            for (int i = 0; i < given.length(); i++) {
                char u = given.charAt(i);
                boolean digit = u >= '0' && u <= '9';
                if (state == 'N' && digit && digits < 6) {
                    digits++;
                    continue;
                }
                if (state == 'G' && digit) {
                    state = 'D';
                } else if (state == 'D' && u == ':') {
                    state = 'B';
                    conditions = 0;
                } else if ((state == 'K' || state == 'C') && u >= '0' && u <= '7') {
                    state = state == 'K' ? 'Y' : 'X';
                } else if (state == 'B' && u == ';' && rules < 12) {
                    rules++;
                    state = 'G';
                } else if (state == 'B' || state == 'X') {
                    if (state == 'B') {
                        conditions = 1;
                        rightSide = false;
                    }
                    if (digit) {
                        state = 'N';
                        digits = 1;
                    } else if ("lwt".indexOf(u) >= 0) {
                        state = 'Y';
                    } else if ("nase".indexOf(u) >= 0) {
                        state = 'K';
                    } else if (u == 'c') {
                        state = 'C';
                    } else if (u == '-' || u == 'f') {
                        state = 'X';
                    } else if (u == '(' && depth < 8) {
                        depth++;
                        state = 'X';
                    } else {
                        return i;
                    }
                } else if (state == 'N' || state == 'Y') {
                    if ("+-*/".indexOf(u) >= 0) {
                        state = 'X';
                    } else if (u == ')' && depth > 0) {
                        depth--;
                        state = 'Y';
                    } else if ("<>=!".indexOf(u) >= 0 && depth == 0 && !rightSide) {
                        rightSide = true;
                        state = 'X';
                    } else if (u == ',' && depth == 0 && rightSide && conditions < 6) {
                        conditions++;
                        rightSide = false;
                        state = 'X';
                    } else if (u == ';' && depth == 0 && rightSide && rules < 12) {
                        rules++;
                        state = 'G';
                    } else {
                        return i;
                    }
                } else {
                    return i;
                }
            }
            boolean whole = state == 'B' || (state == 'N' || state == 'Y') && depth == 0 && rightSide;
            return whole ? -1 : given.length();
        }

        public int write(int i) {
            if (latest == null) {
                throw new IllegalStateException();
            }
            if (i < 0) {
                throw new IllegalArgumentException();
            }
            return i < printed.length() ? printed.charAt(i) : -1;
        }

        public int edition(long day) {
            if (latest == null || days.size() == 4) {
                throw new IllegalStateException();
            }
            if (day < 0 || !days.isEmpty() && day <= days.get(days.size() - 1)) {
                throw new IllegalArgumentException();
            }
            days.add(day);
            editions.add(latest);
            return days.size();
        }

        public void board(int newLength, int newWidth, int newThick) {
            if (!fits(newLength) || !fits(newWidth) || !fits(newThick)) {
                throw new IllegalArgumentException();
            }
            length = newLength;
            width = newWidth;
            thick = newThick;
        }

        private static boolean fits(int number) {
            return number >= 0 && number <= 1000000;
        }

        public int fault(int face, int kind, int x, int y, int w, int h) {
            if (face != 0 && face != 1) {
                throw new ArrayIndexOutOfBoundsException();
            }
            if (faults.size() == 10) {
                throw new IllegalStateException();
            }
            if (kind < 0 || kind > 7 || !fits(x) || !fits(y) || !fits(w) || !fits(h)) {
                throw new IllegalArgumentException();
            }
            faults.add(new Fault(face, kind, x, y, w, h));
            return faults.size();
        }

        public void clearFaults() {
            faults.clear();
        }

        public int face(int k) {
            if (k != 0 && k != 1) {
                throw new ArrayIndexOutOfBoundsException();
            }
            return (int) faults.stream().filter(f -> f.face == k).count();
        }

        private List<Rule> rulesOn(long day) {
            for (int i = days.size() - 1; i >= 0; i--) {
                if (days.get(i) <= day) {
                    return editions.get(i);
                }
            }
            if (latest == null) {
                throw new IllegalStateException();
            }
            return latest;
        }

        /** The number of the rule that holds, or -1; how far each rule came goes to the lists. */
        private int graded(List<Rule> rules, List<Integer> heldOf, List<int[]> openOf) {
            for (int r = 0; r < rules.size(); r++) {
                int count = 0;
                boolean holds = true;
                try {
                    for (Condition condition : rules.get(r).conditions) {
                        long left = value(condition.left);
                        long right = value(condition.right);
                        char relation = condition.relation;
                        holds = relation == '<' ? left < right : relation == '>' ? left > right : (left == right) == (relation == '=');
                        if (!holds) {
                            break;
                        }
                        count++;
                    }
                } catch (Open e) {
                    holds = false;
                    openOf.add(new int[] {r, count, e.cause});
                }
                heldOf.add(count);
                if (holds) {
                    return r;
                }
            }
            return -1;
        }

        private long value(Node node) throws Open {
            long left = node.left == null ? 0 : value(node.left);
            long right = node.right == null ? 0 : value(node.right);
            switch (node.act) {
                case '#':
                    return node.number;
                case 'l':
                    return length;
                case 'w':
                    return width;
                case 't':
                    return thick;
                case 'n':
                    return faults.stream().filter(f -> f.kind == node.number).count();
                case 'a':
                    return faults.stream().filter(f -> f.kind == node.number).mapToLong(Fault::area).sum();
                case 's':
                    return faults.stream().filter(f -> f.kind == node.number).mapToLong(f -> Math.max(f.w, f.h)).max().orElse(0);
                case 'e':
                    return faults.stream().filter(f -> f.kind == node.number).mapToLong(f -> Math.min(f.y, width - f.y - f.h)).min().orElse(width);
                case 'c':
                    return worstOf(node.number, left, 0);
                case 'f':
                    if ((int) left != 0 && (int) left != 1) {
                        throw new Open(2);
                    }
                    return face((int) left);
                case '~':
                    return -left;
                case '+':
                    return left + right;
                case '-':
                    return left - right;
                case '*':
                    return left * right;
                default:
                    if (right == 0) {
                        throw new Open(1);
                    }
                    return left / right;
            }
        }

        public int run(long day) {
            ran = rulesOn(day);
            held.clear();
            opens.clear();
            int rule = graded(ran, held, opens);
            int grade = rule < 0 ? -1 : ran.get(rule).grade;
            told[grade + 1]++;
            return grade;
        }

        public int walk(long day) {
            List<Rule> rules = rulesOn(day);
            int rule = graded(rules, new ArrayList<>(), new ArrayList<>());
            return rule < 0 ? -1 : rules.get(rule).grade;
        }

        private void needRun(int grade, int k) {
            if (ran == null) {
                throw new IllegalStateException();
            }
            if (grade < 0 || grade > 9 || k < 0) {
                throw new IllegalArgumentException();
            }
        }

        public int why(int grade, int k) {
            needRun(grade, k);
            List<Integer> places = new ArrayList<>();
            for (int r = 0; r < ran.size(); r++) {
                if (ran.get(r).grade == grade) {
                    places.add(r);
                }
            }
            return k < places.size() && places.get(k) < held.size() ? held.get(places.get(k)) : -1;
        }

        public int open(int k, int what) {
            if (k < 0 || k >= opens.size()) {
                throw new ArrayIndexOutOfBoundsException();
            }
            if (what < 0 || what > 2) {
                throw new IllegalArgumentException();
            }
            return opens.get(k)[what];
        }

        public long worst(int kind, int span, int part) {
            if (kind < 0 || kind > 7 || part < 0 || part > 1) {
                throw new IllegalArgumentException();
            }
            return worstOf(kind, span, part);
        }

        private long worstOf(int kind, long span, int part) {
            long most = 0;
            for (Fault first : faults) {
                long sum = 0;
                for (Fault other : faults) {
                    long distance = (long) other.x - first.x;
                    if (other.kind == kind && distance >= 0 && distance < span) {
                        sum += part == 0 ? 1 : other.area();
                    }
                }
                most = Math.max(most, sum);
            }
            return most;
        }

        public int raise(int grade, int k) {
            needRun(grade, k);
            List<Fault> all = faults;
            List<Integer> best = null;
            for (int set = 0; set < 1 << all.size(); set++) {
                List<Integer> without = new ArrayList<>();
                faults = new ArrayList<>();
                for (int i = 0; i < all.size(); i++) {
                    if ((set >> i & 1) == 1) {
                        without.add(i);
                    } else {
                        faults.add(all.get(i));
                    }
                }
                if (best != null && !isBefore(without, best)) {
                    continue;
                }
                int rule = graded(ran, new ArrayList<>(), new ArrayList<>());
                if (rule >= 0 && ran.get(rule).grade == grade) {
                    best = without;
                }
            }
            faults = all;
            return best != null && k < best.size() ? best.get(k) : -1;
        }

        private static boolean isBefore(List<Integer> one, List<Integer> other) {
            if (one.size() != other.size()) {
                return one.size() < other.size();
            }
            for (int i = 0; i < one.size(); i++) {
                if (!one.get(i).equals(other.get(i))) {
                    return one.get(i) < other.get(i);
                }
            }
            return false;
        }

        public int appeal(int personA, int gradeA, int personB, int gradeB) {
            return personA == personB ? 2 : gradeA == gradeB ? 0 : 1;
        }

        public long counted(int grade) {
            if (grade < -1 || grade > 9) {
                throw new IllegalArgumentException();
            }
            return told[grade + 1];
        }

        public int machine(int grade, int eye) {
            if (grade < 0 || grade > 9 || eye < 0 || eye > 9) {
                throw new IllegalArgumentException();
            }
            return ++beside[grade][eye];
        }
    }
}
