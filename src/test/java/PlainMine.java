import java.util.ArrayDeque;
import java.util.ArrayList;
import java.util.Arrays;
import java.util.HashMap;
import java.util.List;
import java.util.Map;
import java.util.function.BiFunction;
import java.util.function.Function;

/**
 * The document once more, told as plainly as the Java library allows and without a thought of
 * speed or room: the tests hold DarkMine against it.
 */
final class PlainMine {
    static final int NONE = -1;

    /** What a rule can ask of a cell. */
    record Facts(int grade, int depth, int shift, int far, int open, int lit) { }

    record Row(int miner, int column, int row) { }

    record Order(String name, int grade, int tubs, int pays) { }

    record Digging(int shift, int miner, int cell, int grade) { }

    static final class Fault extends RuntimeException {
        private static final long serialVersionUID = 1L;
        final int kind;
        final int place;

        Fault(int kind, int place) {
            this.kind = kind;
            this.place = place;
        }
    }

    static final class Told {
        int statements;
        int columns;
        int rows;
        int shaft = 0;
        int reach = 3;
        int quake = 0;
        final Map<String, Integer> grades = new HashMap<>();
        final List<String> miners = new ArrayList<>();
        final List<Row> plan = new ArrayList<>();
        final List<Order> orders = new ArrayList<>();
        Function<Facts, Integer> spoils;
        Function<Facts, Boolean> falls;
        Function<Facts, Integer> gets;
    }

    static final class State {
        int shift;
        int purse;
        int[][] grade;
        boolean[][] open;
        boolean[][] curtain;
        boolean[] hurt;
        List<Row> plan = new ArrayList<>();
        boolean[] sold;
        int[] tubs = new int[10];
        List<Digging> kept = new ArrayList<>();

        State copy() {
            State s = new State();
            s.shift = shift;
            s.purse = purse;
            s.grade = new int[grade.length][];
            s.open = new boolean[grade.length][];
            s.curtain = new boolean[grade.length][];
            for (int c = 0; c < grade.length; c++) {
                s.grade[c] = grade[c].clone();
                s.open[c] = open[c].clone();
                s.curtain[c] = curtain[c].clone();
            }
            s.hurt = hurt.clone();
            s.plan = new ArrayList<>(plan);
            s.sold = sold.clone();
            s.tubs = tubs.clone();
            s.kept = new ArrayList<>(kept);
            return s;
        }
    }

    private final List<Integer> tape = new ArrayList<>();
    private Told told;
    private State now = stateOf(null);
    private final ArrayDeque<State> past = new ArrayDeque<>();
    private List<int[]> felt = new ArrayList<>();
    private List<Integer> image = new ArrayList<>();
    private int seed = 1;
    private int faultKind = 0;
    private int faultPlace = NONE;
    private final int[] refused = new int[6];

    private static State stateOf(Told told) {
        State s = new State();
        int columns = told == null ? 0 : told.columns;
        int rows = told == null ? 0 : told.rows;
        s.grade = new int[columns][rows];
        s.open = new boolean[columns][rows];
        s.curtain = new boolean[columns][rows];
        s.hurt = new boolean[told == null ? 0 : told.miners.size()];
        s.sold = new boolean[told == null ? 0 : told.orders.size()];
        for (int c = 0; c < columns; c++) {
            for (int r = 0; r < rows; r++) {
                s.grade[c][r] = told.grades.getOrDefault(c + "/" + r, 5);
            }
        }
        if (told != null) {
            s.open[told.shaft][0] = true;
            s.plan.addAll(told.plan);
        }
        return s;
    }

    // ---- the tape and the text

    int feed(int a, int b, int c, int d, int e) {
        if (tape.size() + 20 > 1600) {
            refused[0]++;
            return NONE;
        }
        for (int n : new int[] {a, b, c, d, e}) {
            tape.add(n >>> 24);
            tape.add(n >>> 16 & 255);
            tape.add(n >>> 8 & 255);
            tape.add(n & 255);
        }
        return tape.size();
    }

    boolean end(int n) {
        if (n < 0 || n > tape.size()) {
            refused[0]++;
            return false;
        }
        while (tape.size() > n) {
            tape.remove(tape.size() - 1);
        }
        return true;
    }

    private List<Integer> takeTape() {
        List<Integer> bytes = new ArrayList<>(tape);
        tape.clear();
        return bytes;
    }

    int mine() {
        List<Integer> bytes = takeTape();
        StringBuilder text = new StringBuilder();
        for (int b : bytes) {
            text.append((char) b);
        }
        try {
            told = new Parser(text.toString()).mine();
        } catch (Fault f) {
            faultKind = f.kind;
            faultPlace = f.place;
            refused[1]++;
            return NONE;
        }
        faultKind = 0;
        faultPlace = NONE;
        now = stateOf(told);
        past.clear();
        felt = new ArrayList<>();
        return told.statements;
    }

    int fault(int what) {
        return what == 0 ? faultKind : what == 1 ? faultPlace : NONE;
    }

    static final class Parser {
        private static final List<String> OWN = List.of("seam", "by", "shaft", "reach", "quake", "grade",
            "miner", "dig", "at", "order", "tubs", "pays", "spoils", "falls", "gets", "depth", "shift",
            "far", "open", "lit", "if", "or", "and", "not", "all", "min", "max");
        private final String text;
        private final Told told = new Told();
        private int at = 0;
        private String rule = "";
        private int opened = 0;

        Parser(String text) {
            this.text = text;
        }

        private void skip() {
            while (at < text.length() && (text.charAt(at) == 32 || text.charAt(at) == 10)) {
                at++;
            }
        }

        private static boolean letter(char c) {
            return c >= 'a' && c <= 'z';
        }

        private static boolean digit(char c) {
            return c >= '0' && c <= '9';
        }

        /** What comes next: "" at the end, a word, a number, or a sign; nothing is used up. */
        private String peek() {
            int before = at;
            skip();
            if (at == text.length()) {
                return "";
            }
            char c = text.charAt(at);
            int e = at + 1;
            if (letter(c) || digit(c)) {
                while (e < text.length() && (letter(c) ? letter(text.charAt(e)) : digit(text.charAt(e)))) {
                    e++;
                }
                int most = letter(c) ? 6 : 4;
                if (e - at > most) {
                    throw new Fault(1, at + most);
                }
                boolean joined = before == at && at > 0
                    && (letter(text.charAt(at - 1)) || digit(text.charAt(at - 1)));
                if (joined) {
                    throw new Fault(1, at);
                }
            }
            return text.substring(at, e);
        }

        private boolean next(String s) {
            if (peek().equals(s)) {
                at += s.length();
                return true;
            }
            return false;
        }

        private void need(String s) {
            if (!next(s)) {
                throw new Fault(1, at);
            }
        }

        private int number(int least, int most) {
            String s = peek();
            if (s.isEmpty() || !digit(s.charAt(0))) {
                throw new Fault(1, at);
            }
            int n = Integer.parseInt(s);
            if (n < least || n > most) {
                throw new Fault(4, at);
            }
            at += s.length();
            return n;
        }

        private String name() {
            String s = peek();
            if (s.isEmpty() || !letter(s.charAt(0)) || OWN.contains(s)) {
                throw new Fault(1, at);
            }
            return s;
        }

        private String newName() {
            String s = name();
            boolean isOrder = told.orders.stream().anyMatch(o -> o.name().equals(s));
            if (isOrder || told.miners.contains(s)) {
                throw new Fault(2, at);
            }
            at += s.length();
            return s;
        }

        Told mine() {
            while (true) {
                skip();
                if (at == text.length() && told.statements > 0) {
                    return told;
                }
                if (told.statements == 80) {
                    throw new Fault(6, at);
                }
                statement();
                need(";");
                told.statements++;
            }
        }

        private void statement() {
            String word = peek();
            int start = at;
            if (told.statements == 0 != word.equals("seam")) {
                throw new Fault(1, at);
            }
            boolean tooMany = switch (word) {
                case "miner" -> told.miners.size() == 6;
                case "dig" -> told.plan.size() == 16;
                case "order" -> told.orders.size() == 5;
                case "spoils" -> told.spoils != null;
                case "falls" -> told.falls != null;
                case "gets" -> told.gets != null;
                case "seam", "shaft", "reach", "quake", "grade" -> false;
                default -> throw new Fault(1, start);
            };
            if (tooMany) {
                throw new Fault(6, start);
            }
            at += word.length();
            rule = word;
            switch (word) {
                case "seam" -> {
                    told.columns = number(3, 7);
                    need("by");
                    told.rows = number(3, 7);
                }
                case "shaft" -> told.shaft = number(0, told.columns - 1);
                case "reach" -> told.reach = number(0, 20);
                case "quake" -> told.quake = number(0, 100);
                case "grade" -> {
                    int c = number(0, told.columns - 1);
                    int r = number(0, told.rows - 1);
                    told.grades.put(c + "/" + r, number(0, 9));
                }
                case "miner" -> told.miners.add(newName());
                case "dig" -> dig();
                case "order" -> {
                    String n = newName();
                    need("grade");
                    int g = number(0, 9);
                    need("tubs");
                    int t = number(1, 9);
                    need("pays");
                    told.orders.add(new Order(n, g, t, number(0, 999)));
                }
                case "spoils" -> told.spoils = sum();
                case "falls" -> told.falls = test();
                default -> told.gets = sum();
            }
        }

        private void dig() {
            String n = name();
            if (!told.miners.contains(n)) {
                throw new Fault(3, at);
            }
            at += n.length();
            need("at");
            int c = number(0, told.columns - 1);
            told.plan.add(new Row(told.miners.indexOf(n), c, number(0, told.rows - 1)));
        }

        private void openOne(String s) {
            if (!peek().equals(s)) {
                throw new Fault(1, at);
            }
            if (opened == 7) {
                throw new Fault(5, at);
            }
            opened++;
            at += s.length();
        }

        private void closeOne(String s) {
            need(s);
            opened--;
        }

        private static int held(long n) {
            return (int) Math.max(-1000000, Math.min(1000000, n));
        }

        private static Function<Facts, Integer> join(Function<Facts, Integer> a, Function<Facts, Integer> b,
                BiFunction<Integer, Integer, Long> f) {
            return x -> held(f.apply(a.apply(x), b.apply(x)));
        }

        private static long over(long a, long b) {
            return b == 0 ? 0 : (long) Math.floor((double) a / b);
        }

        private Function<Facts, Integer> sum() {
            Function<Facts, Integer> a = product();
            while (true) {
                if (next("+")) {
                    a = join(a, product(), (p, q) -> (long) p + q);
                } else if (next("-")) {
                    a = join(a, product(), (p, q) -> (long) p - q);
                } else {
                    return a;
                }
            }
        }

        private Function<Facts, Integer> product() {
            Function<Facts, Integer> a = part();
            while (true) {
                if (next("*")) {
                    a = join(a, part(), (p, q) -> (long) p * q);
                } else if (next("/")) {
                    a = join(a, part(), (p, q) -> over(p, q));
                } else if (next("%")) {
                    a = join(a, part(), (p, q) -> q == 0 ? 0 : p - q * over(p, q));
                } else {
                    return a;
                }
            }
        }

        private Function<Facts, Integer> part() {
            String s = peek();
            if (!s.isEmpty() && digit(s.charAt(0))) {
                int n = number(0, 9999);
                return x -> n;
            }
            boolean spoiling = rule.equals("spoils");
            Function<Facts, Integer> fact = switch (s) {
                case "grade" -> Facts::grade;
                case "depth" -> Facts::depth;
                case "shift" -> Facts::shift;
                case "far" -> spoiling ? Facts::far : null;
                case "open" -> spoiling ? null : Facts::open;
                case "lit" -> spoiling ? null : Facts::lit;
                default -> null;
            };
            if (fact != null) {
                at += s.length();
                return fact;
            }
            if (s.equals("(")) {
                openOne("(");
                Function<Facts, Integer> a = sum();
                closeOne(")");
                return a;
            }
            if (next("min") || next("max")) {
                openOne("(");
                Function<Facts, Integer> a = sum();
                need(",");
                Function<Facts, Integer> b = sum();
                closeOne(")");
                return s.equals("min") ? x -> Math.min(a.apply(x), b.apply(x))
                    : x -> Math.max(a.apply(x), b.apply(x));
            }
            if (next("if")) {
                openOne("(");
                Function<Facts, Boolean> t = test();
                need(",");
                Function<Facts, Integer> a = sum();
                need(",");
                Function<Facts, Integer> b = sum();
                closeOne(")");
                return x -> t.apply(x) ? a.apply(x) : b.apply(x);
            }
            throw new Fault(1, at);
        }

        private Function<Facts, Boolean> test() {
            Function<Facts, Boolean> a = both();
            while (next("or")) {
                Function<Facts, Boolean> p = a;
                Function<Facts, Boolean> q = both();
                a = x -> p.apply(x) || q.apply(x);
            }
            return a;
        }

        private Function<Facts, Boolean> both() {
            Function<Facts, Boolean> a = fact();
            while (next("and")) {
                Function<Facts, Boolean> p = a;
                Function<Facts, Boolean> q = fact();
                a = x -> p.apply(x) && q.apply(x);
            }
            return a;
        }

        private Function<Facts, Boolean> fact() {
            String s = peek();
            if (s.equals("not")) {
                openOne("not");
                Function<Facts, Boolean> a = fact();
                opened--;
                return x -> !a.apply(x);
            }
            if (s.equals("[")) {
                openOne("[");
                Function<Facts, Boolean> a = test();
                closeOne("]");
                return a;
            }
            if (next("all")) {
                return x -> true;
            }
            Function<Facts, Integer> a = sum();
            String sign = peek();
            if (!sign.equals("<") && !sign.equals(">") && !sign.equals("=")) {
                throw new Fault(1, at);
            }
            at++;
            Function<Facts, Integer> b = sum();
            return switch (sign) {
                case "<" -> x -> a.apply(x) < b.apply(x);
                case ">" -> x -> a.apply(x) > b.apply(x);
                default -> x -> a.apply(x).intValue() == b.apply(x).intValue();
            };
        }
    }

    // ---- cells, light, shifts

    private boolean there(int column, int row) {
        return told != null && column >= 0 && column < told.columns && row >= 0 && row < told.rows;
    }

    private List<int[]> beside(int column, int row) {
        List<int[]> cells = new ArrayList<>();
        for (int[] d : new int[][] {{0, -1}, {-1, 0}, {1, 0}, {0, 1}}) {
            if (there(column + d[0], row + d[1])) {
                cells.add(new int[] {column + d[0], row + d[1]});
            }
        }
        return cells;
    }

    /** By rounds until none changes. */
    private int[][] fars(State s) {
        int[][] far = new int[told.columns][told.rows];
        for (int[] f : far) {
            Arrays.fill(f, NONE);
        }
        far[told.shaft][0] = 0;
        boolean changed = true;
        while (changed) {
            changed = false;
            for (int c = 0; c < told.columns; c++) {
                for (int r = 0; r < told.rows; r++) {
                    for (int[] n : beside(c, r)) {
                        int from = far[n[0]][n[1]];
                        boolean way = s.open[c][r] && from != NONE && !s.curtain[n[0]][n[1]];
                        if (way && (far[c][r] == NONE || from + 1 < far[c][r])) {
                            far[c][r] = from + 1;
                            changed = true;
                        }
                    }
                }
            }
        }
        return far;
    }

    private boolean lit(State s, int[][] far, int reach, int c, int r) {
        return s.open[c][r] && far[c][r] != NONE && far[c][r] <= reach && !s.curtain[c][r];
    }

    private Facts facts(State s, int[][] far, int reach, int c, int r) {
        int nearest = Integer.MAX_VALUE;
        int open = 0;
        int lit = 0;
        for (int[] n : beside(c, r)) {
            if (s.open[n[0]][n[1]]) {
                open++;
            }
            if (lit(s, far, reach, n[0], n[1])) {
                lit = 1;
                nearest = Math.min(nearest, far[n[0]][n[1]]);
            }
        }
        return new Facts(s.grade[c][r], r, s.shift, nearest, open, lit);
    }

    private boolean diggable(State s, int c, int r) {
        return !s.open[c][r] && beside(c, r).stream().anyMatch(n -> s.open[n[0]][n[1]]);
    }

    private boolean falls(State s, int reach, int c, int r) {
        return told.falls != null && told.falls.apply(facts(s, fars(s), reach, c, r));
    }

    /** Whether a tub was got. */
    private boolean shift(State s, int reach) {
        boolean got = false;
        if (!s.plan.isEmpty()) {
            Row w = s.plan.get(s.shift % s.plan.size());
            int c = w.column();
            int r = w.row();
            if (!s.hurt[w.miner()] && diggable(s, c, r)) {
                int grade = NONE;
                if (falls(s, reach, c, r)) {
                    s.grade[c][r] = 0;
                    s.hurt[w.miner()] = true;
                } else {
                    grade = told.gets == null ? s.grade[c][r] : told.gets.apply(facts(s, fars(s), reach, c, r));
                    grade = Math.max(0, Math.min(9, grade));
                    s.tubs[grade] = Math.min(99, s.tubs[grade] + 1);
                    s.open[c][r] = true;
                    s.curtain[c][r] = false;
                    got = true;
                }
                s.kept.add(new Digging(s.shift, w.miner(), 8 * r + c, grade));
                if (s.kept.size() > 40) {
                    s.kept.remove(0);
                }
            }
        }
        State ahead = s.copy();
        int[][] far = fars(ahead);
        for (int c = 0; c < told.columns; c++) {
            for (int r = 0; r < told.rows; r++) {
                Facts f = facts(ahead, far, reach, c, r);
                if (!ahead.open[c][r] && f.lit() == 1) {
                    int by = told.spoils == null ? 1 : Math.max(0, told.spoils.apply(f));
                    s.grade[c][r] = Math.max(0, ahead.grade[c][r] - by);
                }
            }
        }
        s.shift++;
        return got;
    }

    private boolean quake(State s, int c, int r) {
        if (!s.open[c][r] || c == told.shaft && r == 0) {
            return false;
        }
        s.open[c][r] = false;
        s.curtain[c][r] = false;
        s.grade[c][r] = 0;
        return true;
    }

    private State ahead(State s, int reach, int n) {
        State a = s.copy();
        for (int k = 0; k < n; k++) {
            shift(a, reach);
        }
        return a;
    }

    private int draw(int m) {
        seed = (int) ((1103515245L * seed + 12345L) % (1L << 31));
        return (int) Math.floor(seed / 64.0) % m;
    }

    private static int tubGrades(State s) {
        int sum = 0;
        for (int g = 0; g < 10; g++) {
            sum += g * s.tubs[g];
        }
        return sum;
    }

    private static int worthOf(State s) {
        int sum = tubGrades(s);
        for (int c = 0; c < s.grade.length; c++) {
            for (int r = 0; r < s.grade[c].length; r++) {
                sum += s.open[c][r] ? 0 : s.grade[c][r];
            }
        }
        return sum;
    }

    // ---- what is asked

    int has(int what) {
        int columns = told == null ? 0 : told.columns;
        int rows = told == null ? 0 : told.rows;
        int[][] far = told == null ? null : fars(now);
        int open = 0;
        int lit = 0;
        int curtains = 0;
        for (int c = 0; c < columns; c++) {
            for (int r = 0; r < rows; r++) {
                open += now.open[c][r] ? 1 : 0;
                lit += lit(now, far, told.reach, c, r) ? 1 : 0;
                curtains += now.curtain[c][r] ? 1 : 0;
            }
        }
        int hurt = 0;
        for (boolean h : now.hurt) {
            hurt += h ? 1 : 0;
        }
        int[] all = {columns, rows, now.hurt.length, now.plan.size(), now.sold.length, now.shift, open, lit,
            curtains, hurt, Arrays.stream(now.tubs).sum(), now.purse, worthOf(now), now.kept.size(),
            felt.size(), past.size(), seed};
        return what >= 0 && what < all.length ? all[what] : NONE;
    }

    int letter(int kind, int which, int k) {
        List<String> names = new ArrayList<>();
        if (told != null && kind == 0) {
            names.addAll(told.miners);
        }
        if (told != null && kind == 1) {
            told.orders.forEach(o -> names.add(o.name()));
        }
        if (which < 0 || which >= names.size() || k < 0 || k > 5) {
            return NONE;
        }
        String name = names.get(which);
        return k < name.length() ? name.charAt(k) - 96 : 0;
    }

    int cell(int column, int row, int what) {
        if (!there(column, row) || what < 0 || what > 5) {
            return NONE;
        }
        int[][] far = fars(now);
        boolean open = now.open[column][row];
        return switch (what) {
            case 0 -> open ? NONE : now.grade[column][row];
            case 1 -> open ? 1 : 0;
            case 2 -> lit(now, far, told.reach, column, row) ? 1 : 0;
            case 3 -> now.curtain[column][row] ? 1 : 0;
            case 4 -> open ? far[column][row] : NONE;
            default -> diggable(now, column, row) && !falls(now, told.reach, column, row) ? 1 : 0;
        };
    }

    int hurt(int miner) {
        return miner < 0 || miner >= now.hurt.length ? NONE : now.hurt[miner] ? 1 : 0;
    }

    int plan(int k, int what) {
        if (k < 0 || k >= now.plan.size()) {
            return NONE;
        }
        Row w = now.plan.get(k);
        return what == 0 ? w.miner() : what == 1 ? w.column() : what == 2 ? w.row() : NONE;
    }

    private boolean sellable(int order) {
        Order o = told.orders.get(order);
        int tubs = 0;
        for (int g = o.grade(); g < 10; g++) {
            tubs += now.tubs[g];
        }
        return !now.sold[order] && tubs >= o.tubs();
    }

    int order(int order, int what) {
        if (order < 0 || order >= now.sold.length) {
            return NONE;
        }
        Order o = told.orders.get(order);
        return switch (what) {
            case 0 -> o.grade();
            case 1 -> o.tubs();
            case 2 -> o.pays();
            case 3 -> now.sold[order] ? 1 : 0;
            case 4 -> sellable(order) ? 1 : 0;
            default -> NONE;
        };
    }

    int tubs(int grade) {
        return grade < 0 || grade > 9 ? NONE : now.tubs[grade];
    }

    private boolean can(int n, int least, int most) {
        return told != null && n >= least && n <= most && now.shift + n <= 999;
    }

    int later(int column, int row, int n) {
        if (!there(column, row) || !can(n, 0, 40)) {
            return NONE;
        }
        State a = ahead(now, told.reach, n);
        return a.open[column][row] ? NONE : a.grade[column][row];
    }

    int opens(int column, int row) {
        if (!there(column, row)) {
            return NONE;
        }
        for (int n = 0; can(n, 0, 40); n++) {
            if (ahead(now, told.reach, n).open[column][row]) {
                return n;
            }
        }
        return NONE;
    }

    int worth(int n) {
        return can(n, 0, 40) ? worthOf(ahead(now, told.reach, n)) : NONE;
    }

    int shade(int n, int what) {
        int[] best = {NONE, NONE, NONE};
        for (int r = 0; can(n, 1, 20) && r < told.rows; r++) {
            for (int c = 0; c < told.columns; c++) {
                if (now.open[c][r] && !now.curtain[c][r] && !(r == 0 && c == told.shaft)) {
                    State s = now.copy();
                    s.curtain[c][r] = true;
                    int left = worthOf(ahead(s, told.reach, n));
                    if (left > best[2]) {
                        best = new int[] {c, r, left};
                    }
                }
            }
        }
        return what >= 0 && what < 3 ? best[what] : NONE;
    }

    int change(int n, int what) {
        if (!can(n, 1, 20) || what < 0 || what > 2) {
            return NONE;
        }
        int[] best = {NONE, NONE, tubGrades(ahead(now, told.reach, n))};
        for (int i = 0; i < now.plan.size(); i++) {
            for (int j = i + 1; j < now.plan.size(); j++) {
                State s = now.copy();
                s.plan.set(i, now.plan.get(j));
                s.plan.set(j, now.plan.get(i));
                int all = tubGrades(ahead(s, told.reach, n));
                if (all > best[2]) {
                    best = new int[] {i, j, all};
                }
            }
        }
        return best[0] == NONE ? NONE : best[what];
    }

    /** Each order from the highest grade on takes the highest tubs that are left. */
    private boolean enough(int set) {
        int[] left = now.tubs.clone();
        for (int g = 9; g >= 0; g--) {
            for (int o = 0; o < now.sold.length; o++) {
                Order order = told.orders.get(o);
                if ((set >> o & 1) == 1 && order.grade() == g) {
                    int want = order.tubs();
                    for (int t = 9; t >= g; t--) {
                        int taken = Math.min(want, left[t]);
                        left[t] -= taken;
                        want -= taken;
                    }
                    if (want > 0 || now.sold[o]) {
                        return false;
                    }
                }
            }
        }
        return true;
    }

    int sale(int what) {
        int bestSet = 0;
        int bestPaid = 0;
        for (int set = (1 << now.sold.length) - 1; set >= 0; set--) {
            int paid = 0;
            for (int o = 0; o < now.sold.length; o++) {
                paid += (set >> o & 1) * told.orders.get(o).pays();
            }
            boolean better = paid > bestPaid
                || paid == bestPaid && Integer.bitCount(set) < Integer.bitCount(bestSet)
                || paid == bestPaid && Integer.bitCount(set) == Integer.bitCount(bestSet) && set < bestSet;
            if (enough(set) && better) {
                bestSet = set;
                bestPaid = paid;
            }
        }
        return what == 0 ? bestSet : what == 1 ? bestPaid : NONE;
    }

    int odds(int column, int row) {
        if (!can(1, 1, 1) || column != NONE && !there(column, row)) {
            return NONE;
        }
        int count = 0;
        for (int q = 0; q < 100; q++) {
            for (int c = 0; c < told.columns; c++) {
                for (int r = 0; r < told.rows; r++) {
                    boolean counts = column == NONE;
                    if (!counts) {
                        State s = now.copy();
                        if (q < told.quake) {
                            quake(s, c, r);
                        }
                        shift(s, told.reach);
                        counts = s.open[column][row];
                    }
                    count += counts ? 1 : 0;
                }
            }
        }
        return count;
    }

    int feel() {
        List<Integer> bytes = takeTape();
        List<int[]> rows = new ArrayList<>();
        for (int k = 0; k + 3 < bytes.size(); k += 4) {
            rows.add(new int[] {bytes.get(k), bytes.get(k + 1), bytes.get(k + 2), bytes.get(k + 3)});
        }
        boolean good = bytes.size() % 4 == 0 && rows.size() >= 1 && rows.size() <= 16;
        for (int[] w : rows) {
            good = good && w[0] <= 30 && there(w[1], w[2]) && (w[3] <= 9 || w[3] == 255);
        }
        if (!good) {
            refused[5]++;
            return NONE;
        }
        felt = rows;
        return rows.size();
    }

    private static int seen(State s, int c, int r) {
        return s.open[c][r] ? 255 : s.grade[c][r];
    }

    private List<Integer> reachesLeft() {
        List<Integer> left = new ArrayList<>();
        for (int reach = 0; reach <= 20; reach++) {
            boolean all = true;
            for (int[] w : felt) {
                all = all && can(w[0], 0, 30) && seen(ahead(now, reach, w[0]), w[1], w[2]) == w[3];
            }
            if (all) {
                left.add(reach);
            }
        }
        return left;
    }

    int reaches() {
        if (told == null) {
            return NONE;
        }
        int bits = 0;
        for (int reach : reachesLeft()) {
            bits |= 1 << reach;
        }
        return bits;
    }

    int tells(int what) {
        if (told == null || what < 0 || what > 2) {
            return NONE;
        }
        List<Integer> left = reachesLeft();
        if (left.isEmpty()) {
            return NONE;
        }
        int[] best = {NONE, NONE, 100};
        List<State> states = new ArrayList<>();
        left.forEach(reach -> states.add(now.copy()));
        for (int n = 1; can(n, 1, 30); n++) {
            for (int k = 0; k < states.size(); k++) {
                shift(states.get(k), left.get(k));
            }
            for (int r = 0; r < told.rows; r++) {
                for (int c = 0; c < told.columns; c++) {
                    Map<Integer, Integer> groups = new HashMap<>();
                    for (State s : states) {
                        groups.merge(seen(s, c, r), 1, Integer::sum);
                    }
                    int most = groups.values().stream().max(Integer::compare).orElse(0);
                    if (most < best[2]) {
                        best = new int[] {n, 8 * r + c, most};
                    }
                }
            }
        }
        return best[0] == NONE ? NONE : best[what];
    }

    // ---- acts

    private void act() {
        past.addLast(now.copy());
        if (past.size() > 20) {
            past.removeFirst();
        }
    }

    int shifts(int n) {
        if (!can(n, 1, 40)) {
            refused[2]++;
            return NONE;
        }
        act();
        int got = 0;
        for (int k = 0; k < n; k++) {
            got += shift(now, told.reach) ? 1 : 0;
        }
        return got;
    }

    int chance(int n) {
        if (!can(n, 1, 40)) {
            refused[2]++;
            return NONE;
        }
        act();
        int closed = 0;
        for (int k = 0; k < n; k++) {
            if (draw(100) < told.quake) {
                int c = draw(told.columns);
                int r = draw(told.rows);
                closed += quake(now, c, r) ? 1 : 0;
            }
            shift(now, told.reach);
        }
        return closed;
    }

    private boolean refuseAct() {
        refused[3]++;
        return false;
    }

    boolean hang(int column, int row, int on) {
        boolean good = there(column, row) && (on == 0 || on == 1) && now.open[column][row]
            && !(column == told.shaft && row == 0) && now.curtain[column][row] != (on == 1);
        if (!good) {
            return refuseAct();
        }
        act();
        now.curtain[column][row] = on == 1;
        return true;
    }

    boolean send(int k, int miner, int column, int row) {
        Row anew = new Row(miner, column, row);
        boolean good = k >= 0 && k < now.plan.size() && miner >= 0 && miner < now.hurt.length
            && there(column, row) && !now.plan.get(k).equals(anew);
        if (!good) {
            return refuseAct();
        }
        act();
        now.plan.set(k, anew);
        return true;
    }

    boolean heal(int miner) {
        if (hurt(miner) != 1) {
            return refuseAct();
        }
        act();
        now.hurt[miner] = false;
        return true;
    }

    int sell(int order) {
        if (order < 0 || order >= now.sold.length || !sellable(order)) {
            refuseAct();
            return NONE;
        }
        act();
        Order o = told.orders.get(order);
        for (int k = 0; k < o.tubs(); k++) {
            int g = o.grade();
            while (now.tubs[g] == 0) {
                g++;
            }
            now.tubs[g]--;
        }
        now.sold[order] = true;
        now.purse = Math.min(99999, now.purse + o.pays());
        return now.purse;
    }

    boolean undo() {
        if (past.isEmpty()) {
            refused[4]++;
            return false;
        }
        now = past.removeLast();
        return true;
    }

    boolean seed(int seed) {
        if (seed < 0) {
            refused[5]++;
            return false;
        }
        this.seed = seed;
        return true;
    }

    int kept(int k, int what) {
        if (k < 0 || k >= now.kept.size()) {
            return NONE;
        }
        Digging d = now.kept.get(k);
        return switch (what) {
            case 0 -> d.shift();
            case 1 -> d.miner();
            case 2 -> d.cell();
            case 3 -> d.grade();
            default -> NONE;
        };
    }

    // ---- images

    private List<Integer> imageOf(State s) {
        List<Integer> b = new ArrayList<>(List.of(s.shift / 256, s.shift % 256,
            s.purse / 65536, s.purse / 256 % 256, s.purse % 256));
        for (int r = 0; told != null && r < told.rows; r++) {
            for (int c = 0; c < told.columns; c++) {
                b.add(s.open[c][r] ? s.curtain[c][r] ? 254 : 255 : s.grade[c][r]);
            }
        }
        for (boolean h : s.hurt) {
            b.add(h ? 1 : 0);
        }
        for (Row w : s.plan) {
            b.addAll(List.of(w.miner(), w.column(), w.row()));
        }
        for (boolean sold : s.sold) {
            b.add(sold ? 1 : 0);
        }
        for (int t : s.tubs) {
            b.add(t);
        }
        int c = 233;
        for (int it : b) {
            c = (5 * c + it) % 251;
        }
        b.add(c);
        return b;
    }

    int image() {
        image = imageOf(now);
        return image.size();
    }

    int octet(int k) {
        return k >= 0 && k < image.size() ? image.get(k) : NONE;
    }

    /** The state that the bytes tell, if its image is again these bytes. */
    boolean on() {
        List<Integer> b = takeTape();
        if (told == null || b.size() != imageOf(now).size()) {
            refused[5]++;
            return false;
        }
        State s = stateOf(told);
        int k = 0;
        s.shift = 256 * b.get(k++) + b.get(k++);
        s.purse = 65536 * b.get(k++) + 256 * b.get(k++) + b.get(k++);
        boolean good = s.shift <= 999 && s.purse <= 99999;
        for (int r = 0; r < told.rows; r++) {
            for (int c = 0; c < told.columns; c++) {
                int v = b.get(k++);
                s.open[c][r] = v >= 254;
                s.curtain[c][r] = v == 254;
                s.grade[c][r] = v;
                good = good && (v <= 9 || v >= 254);
            }
        }
        good = good && s.open[told.shaft][0] && !s.curtain[told.shaft][0];
        for (int m = 0; m < s.hurt.length; m++) {
            s.hurt[m] = b.get(k++) == 1;
        }
        for (int w = 0; w < s.plan.size(); w++) {
            Row row = new Row(b.get(k++), b.get(k++), b.get(k++));
            s.plan.set(w, row);
            good = good && row.miner() < s.hurt.length && there(row.column(), row.row());
        }
        for (int o = 0; o < s.sold.length; o++) {
            s.sold[o] = b.get(k++) == 1;
        }
        for (int g = 0; g < 10; g++) {
            s.tubs[g] = b.get(k++);
            good = good && s.tubs[g] <= 99;
        }
        if (!good || !imageOf(s).equals(b)) {
            refused[5]++;
            return false;
        }
        now = s;
        past.clear();
        return true;
    }

    int status(int what) {
        return what >= 0 && what < 6 ? refused[what] : NONE;
    }
}
