import java.util.Arrays;

/**
 * A mine in which dark is mined: a seam of cells, a shaft, miners who dig by a plan, light that
 * spoils what lies beside it, orders that are paid for tubs. The mine is told as a text on a tape.
 */
public final class DarkMine {
    public static final int NONE = -1;

    private static final int TAPE_MOST = 1600;
    private static final int FEED_BYTES = 20;
    private static final int STATEMENTS_MOST = 80;
    private static final int MINERS_MOST = 6;
    private static final int PLAN_MOST = 16;
    private static final int ORDERS_MOST = 5;
    private static final int NAME_LETTERS = 6;
    private static final int GRADE_MOST = 9;
    private static final int GRADES = 10;
    private static final int TUBS_MOST = 99;
    private static final int SHIFT_LAST = 999;
    private static final int PURSE_MOST = 99999;
    private static final int REACH_MOST = 20;
    private static final int AHEAD_MOST = 40;
    private static final int TRIAL_MOST = 20;
    private static final int FEEL_AHEAD_MOST = 30;
    private static final int FELT_MOST = 16;
    private static final int FELT_BYTES = 4;
    private static final int KEPT_MOST = 40;
    private static final int KEPT_PARTS = 4;
    private static final int ACTS_MOST = 20;
    private static final int IMAGE_MOST = 124;

    /* What stands at a place: 0 to 9 is the GRADE of a SOLID CELL; the others are as in AN IMAGE. */
    private static final int OPEN = 255;
    private static final int CURTAINED = 254;
    private static final int WALL = 100;

    /*
     * A place is 8 times (row + 1) and the column. A seam has 7 columns and rows at most, so that
     * column 7 and the rows ahead of the first and behind the last one are WALL: each step from a
     * CELL to a side stays among the places.
     */
    private static final int PLACES = 72;
    private static final int PLACE_OF_FIRST = 8;
    private static final int[] SIDES = {-8, -1, 1, 8};

    private static final int SPOILS = 0;
    private static final int FALLS = 1;
    private static final int GETS = 2;
    private static final int RULES = 3;

    /* Steps of a rule, behind what they work on; a step of 0 or more is a number itself. */
    private static final int STEP_GRADE = -1;
    private static final int STEP_DEPTH = -2;
    private static final int STEP_SHIFT = -3;
    private static final int STEP_FAR = -4;
    private static final int STEP_OPEN = -5;
    private static final int STEP_LIT = -6;
    private static final int STEP_ALL = -7;
    private static final int STEP_NOT = -8;
    private static final int STEP_CHOOSE = -9;
    private static final int STEP_ADD = -10;
    private static final int STEP_LESSEN = -11;
    private static final int STEP_TIMES = -12;
    private static final int STEP_DIVIDE = -13;
    private static final int STEP_REST = -14;
    private static final int STEP_MIN = -15;
    private static final int STEP_MAX = -16;
    private static final int STEP_BELOW = -17;
    private static final int STEP_ABOVE = -18;
    private static final int STEP_LIKE = -19;
    private static final int STEP_AND = -20;
    private static final int STEP_OR = -21;

    private final Tape tape = new Tape();
    private final Pit pit = new Pit();
    private final Pit trial = new Pit();
    private final History history = new History();
    private final Image picture = new Image(tape);
    private final int[] refusals = new int[6];
    private Ground ground = new Ground();
    private Ground spareGround = new Ground();
    private final Reader reader = new Reader(spareGround);
    private final Works works = new Works(ground, pit);
    private final Foresight foresight = new Foresight(works);
    private final Feeling feeling = new Feeling(works);
    private int drawn = 1;

    public DarkMine() {
        pit.begin(ground);
    }

    public int feed(int a, int b, int c, int d, int e) {
        if (tape.length + FEED_BYTES > TAPE_MOST) {
            return none(0);
        }
        tape.put(a);
        tape.put(b);
        tape.put(c);
        tape.put(d);
        tape.put(e);
        return tape.length;
    }

    public boolean end(int n) {
        if (n < 0 || n > tape.length) {
            return no(0);
        }
        tape.length = n;
        return true;
    }

    public int mine() {
        int statements = reader.read(tape, spareGround);
        tape.length = 0;
        if (statements == NONE) {
            return none(1);
        }
        Ground told = spareGround;
        spareGround = ground;
        ground = told;
        pit.begin(ground);
        history.clear();
        feeling.count = 0;
        forgetTrials();
        return statements;
    }

    public int fault(int what) {
        if (what == 0) {
            return reader.fault;
        }
        return what == 1 ? reader.faultAt : NONE;
    }

    public int has(int what) {
        switch (what) {
            case 0: return ground.columns;
            case 1: return ground.rows;
            case 2: return ground.miners;
            case 3: return ground.planRows;
            case 4: return ground.orders;
            case 5: return pit.shift;
            case 6: return countOpen();
            case 7: return countLit();
            case 8: return countCurtains();
            case 9: return countHurt();
            case 10: return pit.tubsFrom(0);
            case 11: return pit.purse;
            case 12: return pit.wholeWorth();
            case 13: return history.keptCount;
            case 14: return feeling.count;
            case 15: return history.acts;
            case 16: return drawn;
            default: return NONE;
        }
    }

    public int letter(int kind, int which, int k) {
        if (kind == 0) {
            return which >= 0 && which < ground.miners ? letterOf(ground.minerNames[which], k) : NONE;
        }
        if (kind == 1) {
            return which >= 0 && which < ground.orders ? letterOf(ground.orderNames[which], k) : NONE;
        }
        return NONE;
    }

    public int cell(int column, int row, int what) {
        int place = ground.placeOf(column, row);
        if (place == NONE) {
            return NONE;
        }
        works.enter(ground, pit, ground.reach);
        switch (what) {
            case 0: return pit.gradeAt(place);
            case 1: return flag(pit.isOpen(place));
            case 2: return flag(works.isLit(place));
            case 3: return flag(pit.cells[place] == CURTAINED);
            case 4: return works.farOf(place);
            case 5: return flag(works.isSafe(place));
            default: return NONE;
        }
    }

    public int hurt(int miner) {
        return ground.hasMiner(miner) ? pit.hurts[miner] : NONE;
    }

    public int plan(int k, int what) {
        if (!ground.hasPlanRow(k)) {
            return NONE;
        }
        switch (what) {
            case 0: return pit.planMiners[k];
            case 1: return columnOf(pit.planPlaces[k]);
            case 2: return rowOf(pit.planPlaces[k]);
            default: return NONE;
        }
    }

    public int order(int order, int what) {
        if (!ground.hasOrder(order)) {
            return NONE;
        }
        switch (what) {
            case 0: return ground.orderGrades[order];
            case 1: return ground.orderTubs[order];
            case 2: return ground.orderPays[order];
            case 3: return pit.sold[order];
            case 4: return flag(canBeSold(order));
            default: return NONE;
        }
    }

    public int tubs(int grade) {
        return grade >= 0 && grade <= GRADE_MOST ? pit.tubCounts[grade] : NONE;
    }

    public int later(int column, int row, int n) {
        int place = ground.placeOf(column, row);
        if (place == NONE || !shiftsCome(0, n, AHEAD_MOST)) {
            return NONE;
        }
        lookAhead(n);
        return trial.gradeAt(place);
    }

    public int opens(int column, int row) {
        int place = ground.placeOf(column, row);
        if (place == NONE) {
            return NONE;
        }
        lookAhead(0);
        int most = Math.min(AHEAD_MOST, SHIFT_LAST - pit.shift);
        for (int n = 0; n <= most; n++) {
            if (trial.isOpen(place)) {
                return n;
            }
            works.pass(1);
        }
        return NONE;
    }

    public int worth(int n) {
        if (!shiftsCome(0, n, AHEAD_MOST)) {
            return NONE;
        }
        lookAhead(n);
        return trial.wholeWorth();
    }

    public int shade(int n, int what) {
        if (!shiftsCome(1, n, TRIAL_MOST)) {
            return NONE;
        }
        foresight.seekShade(ground, pit, n);
        if (foresight.shadePlace == NONE) {
            return NONE;
        }
        switch (what) {
            case 0: return columnOf(foresight.shadePlace);
            case 1: return rowOf(foresight.shadePlace);
            case 2: return foresight.shadeWorth;
            default: return NONE;
        }
    }

    public int change(int n, int what) {
        if (!shiftsCome(1, n, TRIAL_MOST)) {
            return NONE;
        }
        foresight.seekChange(ground, pit, n);
        if (foresight.changeRow == NONE) {
            return NONE;
        }
        switch (what) {
            case 0: return foresight.changeRow;
            case 1: return foresight.changeOther;
            case 2: return foresight.changeGrades;
            default: return NONE;
        }
    }

    public int sale(int what) {
        if (what != 0 && what != 1) {
            return NONE;
        }
        int best = 0;
        for (int set = 1; set < 1 << ground.orders; set++) {
            if (canAllBeSold(set) && isBetterSale(set, best)) {
                best = set;
            }
        }
        return what == 0 ? best : paidFor(best);
    }

    public int odds(int column, int row) {
        if (!shiftsCome(1, 1, 1)) {
            return NONE;
        }
        if (column == NONE) {
            return 100 * ground.columns * ground.rows;
        }
        int place = ground.placeOf(column, row);
        return place == NONE ? NONE : foresight.oddsOf(ground, pit, place);
    }

    public int feel() {
        boolean taken = feeling.take(ground, tape);
        tape.length = 0;
        return taken ? feeling.count : none(5);
    }

    public int reaches() {
        return ground.hasSeam() ? feeling.reachBits(ground, pit) : NONE;
    }

    public int tells(int what) {
        if (!shiftsCome(1, 1, 1)) {
            return NONE;
        }
        if (!feeling.isTold) {
            feeling.seekTelling(ground, pit, feeling.reachBits(ground, pit));
        }
        if (feeling.tellingPlace == NONE) {
            return NONE;
        }
        switch (what) {
            case 0: return feeling.tellingShifts;
            case 1: return feeling.tellingPlace - PLACE_OF_FIRST;
            case 2: return feeling.tellingLeft;
            default: return NONE;
        }
    }

    public int shifts(int n) {
        if (!shiftsCome(1, n, AHEAD_MOST)) {
            return none(2);
        }
        beginAct();
        works.enter(ground, pit, ground.reach);
        int got = 0;
        for (int k = 0; k < n; k++) {
            got += passAndKeep();
        }
        return got;
    }

    public int chance(int n) {
        if (!shiftsCome(1, n, AHEAD_MOST)) {
            return none(2);
        }
        beginAct();
        works.enter(ground, pit, ground.reach);
        int closed = 0;
        for (int k = 0; k < n; k++) {
            closed += flag(quakeCloses());
            passAndKeep();
        }
        return closed;
    }

    public boolean hang(int column, int row, int on) {
        int place = ground.placeOf(column, row);
        if (place == NONE || place == ground.shaftPlace || on < 0 || on > 1) {
            return no(3);
        }
        int ahead = on == 1 ? OPEN : CURTAINED;
        if (pit.cells[place] != ahead) {
            return no(3);
        }
        beginAct();
        pit.cells[place] = on == 1 ? CURTAINED : OPEN;
        return true;
    }

    public boolean send(int k, int miner, int column, int row) {
        int place = ground.placeOf(column, row);
        if (place == NONE || !ground.hasPlanRow(k) || !ground.hasMiner(miner)) {
            return no(3);
        }
        if (pit.planMiners[k] == miner && pit.planPlaces[k] == place) {
            return no(3);
        }
        beginAct();
        pit.planMiners[k] = miner;
        pit.planPlaces[k] = place;
        return true;
    }

    public boolean heal(int miner) {
        if (!ground.hasMiner(miner) || pit.hurts[miner] == 0) {
            return no(3);
        }
        beginAct();
        pit.hurts[miner] = 0;
        return true;
    }

    public int sell(int order) {
        if (!ground.hasOrder(order) || !canBeSold(order)) {
            return none(3);
        }
        beginAct();
        pit.giveTubs(ground.orderGrades[order], ground.orderTubs[order]);
        pit.sold[order] = 1;
        pit.purse = Math.min(PURSE_MOST, pit.purse + ground.orderPays[order]);
        return pit.purse;
    }

    public boolean undo() {
        if (!history.takeBack(pit)) {
            return no(4);
        }
        forgetTrials();
        return true;
    }

    public boolean seed(int seed) {
        if (seed < 0) {
            return no(5);
        }
        drawn = seed;
        return true;
    }

    public int kept(int k, int what) {
        if (k < 0 || k >= history.keptCount || what < 0 || what >= KEPT_PARTS) {
            return NONE;
        }
        return history.keptParts[KEPT_PARTS * k + what];
    }

    public int image() {
        picture.write(ground, pit);
        return picture.length;
    }

    public int octet(int k) {
        return k >= 0 && k < picture.length ? picture.bytes[k] : NONE;
    }

    public boolean on() {
        boolean told = ground.hasSeam() && picture.tellsPit(ground, trial);
        tape.length = 0;
        if (!told) {
            return no(5);
        }
        pit.copy(trial);
        history.clear();
        forgetTrials();
        return true;
    }

    public int status(int what) {
        return what >= 0 && what < refusals.length ? refusals[what] : NONE;
    }

    private int none(int refusal) {
        refusals[refusal]++;
        return NONE;
    }

    private boolean no(int refusal) {
        refusals[refusal]++;
        return false;
    }

    /** Ahead of each ACT: what it changes can be brought back, what was found ahead holds no more. */
    private void beginAct() {
        history.put(pit);
        forgetTrials();
    }

    private void forgetTrials() {
        foresight.forget();
        feeling.forget();
    }

    private boolean shiftsCome(int least, int n, int most) {
        return ground.hasSeam() && n >= least && n <= most && pit.shift + n <= SHIFT_LAST;
    }

    private void lookAhead(int n) {
        trial.copy(pit);
        works.enter(ground, trial, ground.reach);
        works.pass(n);
    }

    /** One SHIFT of the pit itself: 1 if a tub was got, else 0. */
    private int passAndKeep() {
        int shift = pit.shift;
        works.pass(1);
        if (works.dugMiner == NONE) {
            return 0;
        }
        history.keep(shift, works.dugMiner, works.dugPlace - PLACE_OF_FIRST, works.dugGrade);
        return works.dugGrade == NONE ? 0 : 1;
    }

    private boolean quakeCloses() {
        if (draw(100) >= ground.quake) {
            return false;
        }
        int column = draw(ground.columns);
        int row = draw(ground.rows);
        return works.closeCell(ground.placeOf(column, row));
    }

    private int draw(int m) {
        drawn = (int) ((1103515245L * drawn + 12345L) & 0x7fffffffL);
        return m > 0 ? drawn / 64 % m : 0;
    }

    private int countOpen() {
        int count = 0;
        for (int place = 0; place < PLACES; place++) {
            count += flag(pit.isOpen(place));
        }
        return count;
    }

    private int countLit() {
        if (!ground.hasSeam()) {
            return 0;
        }
        works.enter(ground, pit, ground.reach);
        int count = 0;
        for (int place = 0; place < PLACES; place++) {
            count += flag(works.isLit(place));
        }
        return count;
    }

    private int countCurtains() {
        int count = 0;
        for (int place = 0; place < PLACES; place++) {
            count += flag(pit.cells[place] == CURTAINED);
        }
        return count;
    }

    private int countHurt() {
        int count = 0;
        for (int miner = 0; miner < ground.miners; miner++) {
            count += pit.hurts[miner];
        }
        return count;
    }

    private boolean canBeSold(int order) {
        return pit.sold[order] == 0
            && pit.tubsFrom(ground.orderGrades[order]) >= ground.orderTubs[order];
    }

    /**
     * A tub is good for all ORDERS up to its GRADE. So the tubs are enough for a set if, from the
     * GRADE of each ORDER of it on, there are as many as its ORDERS from there on want.
     */
    private boolean canAllBeSold(int set) {
        for (int order = 0; order < ground.orders; order++) {
            if ((set >> order & 1) == 0) {
                continue;
            }
            int grade = ground.orderGrades[order];
            if (pit.sold[order] == 1 || wantedFrom(set, grade) > pit.tubsFrom(grade)) {
                return false;
            }
        }
        return true;
    }

    private int wantedFrom(int set, int grade) {
        int wanted = 0;
        for (int order = 0; order < ground.orders; order++) {
            if ((set >> order & 1) == 1 && ground.orderGrades[order] >= grade) {
                wanted += ground.orderTubs[order];
            }
        }
        return wanted;
    }

    private int paidFor(int set) {
        int paid = 0;
        for (int order = 0; order < ground.orders; order++) {
            if ((set >> order & 1) == 1) {
                paid += ground.orderPays[order];
            }
        }
        return paid;
    }

    /** The sets come by rising bits: of like ones the earlier stays. */
    private boolean isBetterSale(int set, int best) {
        int more = paidFor(set) - paidFor(best);
        return more > 0 || more == 0 && Integer.bitCount(set) < Integer.bitCount(best);
    }

    private static int flag(boolean holds) {
        return holds ? 1 : 0;
    }

    private static int columnOf(int place) {
        return place & 7;
    }

    private static int rowOf(int place) {
        return (place >> 3) - 1;
    }

    /** A name is a number of six digits to the base 27, the first letter highest, 0 behind it. */
    private static int letterOf(int name, int k) {
        if (k < 0 || k >= NAME_LETTERS) {
            return NONE;
        }
        int rest = name;
        for (int behind = k + 1; behind < NAME_LETTERS; behind++) {
            rest /= 27;
        }
        return rest % 27;
    }

    /** The bytes that were fed and not yet used. */
    private static final class Tape {
        final int[] bytes = new int[TAPE_MOST];
        int length;

        void put(int number) {
            for (int shift = 24; shift >= 0 && length < TAPE_MOST; shift -= 8) {
                bytes[length] = number >> shift & 255;
                length++;
            }
        }
    }

    /** What a MINE's text tells, and no ACT changes. */
    private static final class Ground {
        int columns;
        int rows;
        int shaftPlace = NONE;
        int reach;
        int quake;
        final int[] grades = new int[PLACES];
        int miners;
        final int[] minerNames = new int[MINERS_MOST];
        int planRows;
        final int[] planMiners = new int[PLAN_MOST];
        final int[] planPlaces = new int[PLAN_MOST];
        int orders;
        final int[] orderNames = new int[ORDERS_MOST];
        final int[] orderGrades = new int[ORDERS_MOST];
        final int[] orderTubs = new int[ORDERS_MOST];
        final int[] orderPays = new int[ORDERS_MOST];
        /* A text of so many bytes has no more words, numbers and signs, each of which is a step at most. */
        final int[] steps = new int[TAPE_MOST];
        final int[] ruleFrom = new int[RULES];
        final int[] ruleEnd = new int[RULES];

        void clear() {
            columns = 0;
            rows = 0;
            shaftPlace = NONE;
            reach = 3;
            quake = 0;
            Arrays.fill(grades, 5);
            miners = 0;
            planRows = 0;
            orders = 0;
            Arrays.fill(ruleFrom, 0);
            Arrays.fill(ruleEnd, 0);
        }

        boolean hasSeam() {
            return columns > 0;
        }

        boolean hasMiner(int miner) {
            return miner >= 0 && miner < miners;
        }

        boolean hasPlanRow(int row) {
            return row >= 0 && row < planRows;
        }

        boolean hasOrder(int order) {
            return order >= 0 && order < orders;
        }

        boolean hasRule(int rule) {
            return ruleEnd[rule] > ruleFrom[rule];
        }

        boolean hasName(int name) {
            for (int order = 0; order < orders; order++) {
                if (orderNames[order] == name) {
                    return true;
                }
            }
            return minerNamed(name) != NONE;
        }

        int minerNamed(int name) {
            for (int miner = 0; miner < miners; miner++) {
                if (minerNames[miner] == name) {
                    return miner;
                }
            }
            return NONE;
        }

        int placeOf(int column, int row) {
            if (column < 0 || column >= columns || row < 0 || row >= rows) {
                return NONE;
            }
            return 8 * row + column + PLACE_OF_FIRST;
        }

        /** Where the places of the seam end; among them are some that are WALL. */
        int endOfPlaces() {
            return 8 * rows + PLACE_OF_FIRST;
        }
    }

    /** All that ACTS change, but what is KEPT and the seed. */
    private static final class Pit {
        int shift;
        int purse;
        final int[] cells = new int[PLACES];
        final int[] hurts = new int[MINERS_MOST];
        final int[] planMiners = new int[PLAN_MOST];
        final int[] planPlaces = new int[PLAN_MOST];
        final int[] sold = new int[ORDERS_MOST];
        final int[] tubCounts = new int[GRADES];

        void begin(Ground ground) {
            shift = 0;
            purse = 0;
            Arrays.fill(cells, WALL);
            for (int row = 0; row < ground.rows; row++) {
                int place = 8 * row + PLACE_OF_FIRST;
                System.arraycopy(ground.grades, place, cells, place, ground.columns);
            }
            if (ground.hasSeam()) {
                cells[ground.shaftPlace] = OPEN;
            }
            Arrays.fill(hurts, 0);
            System.arraycopy(ground.planMiners, 0, planMiners, 0, PLAN_MOST);
            System.arraycopy(ground.planPlaces, 0, planPlaces, 0, PLAN_MOST);
            Arrays.fill(sold, 0);
            Arrays.fill(tubCounts, 0);
        }

        void copy(Pit other) {
            shift = other.shift;
            purse = other.purse;
            System.arraycopy(other.cells, 0, cells, 0, PLACES);
            System.arraycopy(other.hurts, 0, hurts, 0, MINERS_MOST);
            System.arraycopy(other.planMiners, 0, planMiners, 0, PLAN_MOST);
            System.arraycopy(other.planPlaces, 0, planPlaces, 0, PLAN_MOST);
            System.arraycopy(other.sold, 0, sold, 0, ORDERS_MOST);
            System.arraycopy(other.tubCounts, 0, tubCounts, 0, GRADES);
        }

        boolean isOpen(int place) {
            return cells[place] >= CURTAINED;
        }

        boolean isSolid(int place) {
            return cells[place] <= GRADE_MOST;
        }

        int gradeAt(int place) {
            return isSolid(place) ? cells[place] : NONE;
        }

        int openBeside(int place) {
            int count = 0;
            for (int side : SIDES) {
                if (isOpen(place + side)) {
                    count++;
                }
            }
            return count;
        }

        boolean canBeDug(int place) {
            return isSolid(place) && openBeside(place) > 0;
        }

        void addTub(int grade) {
            tubCounts[grade] = Math.min(TUBS_MOST, tubCounts[grade] + 1);
        }

        int tubsFrom(int grade) {
            int count = 0;
            for (int g = grade; g <= GRADE_MOST; g++) {
                count += tubCounts[g];
            }
            return count;
        }

        void giveTubs(int grade, int wanted) {
            int left = wanted;
            for (int g = grade; g <= GRADE_MOST; g++) {
                int given = Math.min(left, tubCounts[g]);
                tubCounts[g] -= given;
                left -= given;
            }
        }

        int tubGrades() {
            int sum = 0;
            for (int g = 0; g <= GRADE_MOST; g++) {
                sum += g * tubCounts[g];
            }
            return sum;
        }

        int wholeWorth() {
            int sum = tubGrades();
            for (int place = 0; place < PLACES; place++) {
                if (isSolid(place)) {
                    sum += cells[place];
                }
            }
            return sum;
        }

        void changeRows(int one, int other) {
            int miner = planMiners[one];
            int place = planPlaces[one];
            planMiners[one] = planMiners[other];
            planPlaces[one] = planPlaces[other];
            planMiners[other] = miner;
            planPlaces[other] = place;
        }
    }

    /** Works out a rule for one CELL, of which its fields tell. */
    private static final class Rules {
        private static final int VALUE_MOST = 1000000;
        /* Within seven that are open at once, and outside them, five values wait at most each: 41 do. */
        private static final int STACK_MOST = 64;

        int grade;
        int depth;
        int shift;
        int far;
        int open;
        int lit;
        private final int[] stack = new int[STACK_MOST];
        private int top;

        /** What the rule tells, 1 or 0 for a TEST; a ground without that rule has another value. */
        int valueOf(Ground ground, int rule, int without) {
            if (!ground.hasRule(rule)) {
                return without;
            }
            top = 0;
            for (int k = ground.ruleFrom[rule]; k < ground.ruleEnd[rule]; k++) {
                int step = ground.steps[k];
                if (step >= STEP_ALL) {
                    push(step >= 0 ? step : fact(step));
                } else if (step == STEP_NOT) {
                    push(1 - pop());
                } else {
                    int second = pop();
                    int first = pop();
                    push(step == STEP_CHOOSE ? chosen(pop(), first, second) : result(step, first, second));
                }
            }
            return pop();
        }

        private void push(int value) {
            if (top < STACK_MOST) {
                stack[top] = value;
                top++;
            }
        }

        private int pop() {
            if (top == 0) {
                return 0;
            }
            top--;
            return stack[top];
        }

        private int fact(int step) {
            switch (step) {
                case STEP_GRADE: return grade;
                case STEP_DEPTH: return depth;
                case STEP_SHIFT: return shift;
                case STEP_FAR: return far;
                case STEP_OPEN: return open;
                case STEP_LIT: return lit;
                default: return 1;
            }
        }

        private static int chosen(int holds, int first, int second) {
            return holds == 1 ? first : second;
        }

        private static int result(int step, int a, int b) {
            switch (step) {
                case STEP_ADD: return bounded((long) a + b);
                case STEP_LESSEN: return bounded((long) a - b);
                case STEP_TIMES: return bounded((long) a * b);
                case STEP_DIVIDE: return b == 0 ? 0 : bounded(Math.floorDiv(a, b));
                case STEP_REST: return b == 0 ? 0 : Math.floorMod(a, b);
                case STEP_MIN: return a < b ? a : b;
                case STEP_MAX: return a > b ? a : b;
                case STEP_BELOW: return a < b ? 1 : 0;
                case STEP_ABOVE: return a > b ? 1 : 0;
                case STEP_LIKE: return a == b ? 1 : 0;
                case STEP_AND: return a & b;
                default: return a | b;
            }
        }

        private static int bounded(long value) {
            if (value > VALUE_MOST) {
                return VALUE_MOST;
            }
            return value < -VALUE_MOST ? -VALUE_MOST : (int) value;
        }
    }

    /** Lets SHIFTS go by in a pit. */
    private static final class Works {
        /* More than any CELL can be FAR. */
        private static final int DARK = 1000;

        private final Rules rules = new Rules();
        private final int[] far = new int[PLACES];
        /* How FAR the nearest LIT CELL beside each place is; DARK without one. */
        private final int[] beam = new int[PLACES];
        /* The SOLID CELLS beside LIT ones: most SHIFTS change none of these, and need not seek them. */
        private final int[] exposed = new int[PLACES];
        private int exposedCount;
        private final int[] queue = new int[PLACES];
        private Ground ground;
        private Pit pit;
        private int reach;
        /* Whether far, beam and exposed are no more what the OPEN CELLS and curtains make them. */
        private boolean stale;
        /* The digging of the latest SHIFT: no MINER without one, no GRADE where the CELL fell. */
        int dugMiner = NONE;
        int dugPlace = NONE;
        int dugGrade = NONE;

        Works(Ground firstGround, Pit firstPit) {
            ground = firstGround;
            pit = firstPit;
            stale = true;
        }

        void enter(Ground newGround, Pit newPit, int newReach) {
            ground = newGround;
            pit = newPit;
            reach = newReach;
            stale = true;
        }

        int farOf(int place) {
            spreadLight();
            return far[place];
        }

        boolean isLit(int place) {
            int steps = farOf(place);
            return steps != NONE && steps <= reach && pit.cells[place] == OPEN;
        }

        boolean isSafe(int place) {
            if (!pit.canBeDug(place)) {
                return false;
            }
            spreadLight();
            tellDigging(place);
            return rules.valueOf(ground, FALLS, 0) == 0;
        }

        /** Whether a quake at that CELL makes it SOLID: it does if it is OPEN and not the shaft's. */
        boolean closeCell(int place) {
            if (place == NONE || place == ground.shaftPlace || !pit.isOpen(place)) {
                return false;
            }
            pit.cells[place] = 0;
            stale = true;
            return true;
        }

        /** n SHIFTS without DRAWS. */
        void pass(int n) {
            for (int k = 0; k < n; k++) {
                dugMiner = NONE;
                spreadLight();
                digByPlan();
                spreadLight();
                spoilExposed();
                pit.shift = Math.min(SHIFT_LAST, pit.shift + 1);
            }
        }

        private void digByPlan() {
            if (ground.planRows == 0) {
                return;
            }
            int row = pit.shift % ground.planRows;
            int miner = pit.planMiners[row];
            int place = pit.planPlaces[row];
            if (pit.hurts[miner] == 1 || !pit.canBeDug(place)) {
                return;
            }
            dugMiner = miner;
            dugPlace = place;
            tellDigging(place);
            if (rules.valueOf(ground, FALLS, 0) == 1) {
                dugGrade = NONE;
                pit.cells[place] = 0;
                pit.hurts[miner] = 1;
            } else {
                int got = rules.valueOf(ground, GETS, pit.cells[place]);
                dugGrade = Math.max(0, Math.min(GRADE_MOST, got));
                pit.addTub(dugGrade);
                pit.cells[place] = OPEN;
                stale = true;
            }
        }

        private void tellDigging(int place) {
            rules.grade = pit.cells[place];
            rules.depth = rowOf(place);
            rules.shift = pit.shift;
            rules.open = pit.openBeside(place);
            rules.lit = beam[place] < DARK ? 1 : 0;
        }

        private void spoilExposed() {
            for (int k = 0; k < exposedCount; k++) {
                int place = exposed[k];
                int grade = pit.cells[place];
                /* GRADE 0 can't become less: the rule need not be worked out. */
                if (grade > 0) {
                    rules.grade = grade;
                    rules.depth = rowOf(place);
                    rules.shift = pit.shift;
                    rules.far = beam[place];
                    int loss = Math.max(0, rules.valueOf(ground, SPOILS, 1));
                    pit.cells[place] = Math.max(0, grade - loss);
                }
            }
        }

        private void spreadLight() {
            if (!stale) {
                return;
            }
            stale = false;
            Arrays.fill(far, NONE);
            Arrays.fill(beam, DARK);
            exposedCount = 0;
            int start = ground.shaftPlace;
            if (start == NONE) {
                return;
            }
            far[start] = 0;
            queue[0] = start;
            int known = 1;
            for (int k = 0; k < known && k < PLACES; k++) {
                int place = queue[k];
                /* Where a curtain hangs it is dark, and no step leads out. */
                if (pit.cells[place] == OPEN) {
                    if (far[place] <= reach) {
                        shineFrom(place);
                    }
                    known = stepFrom(place, known);
                }
            }
        }

        /** The nearest CELLS come first, so that what another one lights already has it nearer. */
        private void shineFrom(int place) {
            for (int side : SIDES) {
                int next = place + side;
                if (beam[next] == DARK) {
                    beam[next] = far[place];
                    if (pit.isSolid(next)) {
                        exposed[exposedCount] = next;
                        exposedCount++;
                    }
                }
            }
        }

        private int stepFrom(int place, int known) {
            int end = known;
            for (int side : SIDES) {
                int next = place + side;
                if (far[next] == NONE && pit.isOpen(next)) {
                    far[next] = far[place] + 1;
                    queue[end] = next;
                    end++;
                }
            }
            return end;
        }
    }

    /** What curtains, changed plans and quakes would bring. What was found is held until forgotten. */
    private static final class Foresight {
        private final Works works;
        private final Pit trial = new Pit();
        private int shadeFor;
        private int changeFor;
        int shadePlace = NONE;
        int shadeWorth = NONE;
        int changeRow = NONE;
        int changeOther = NONE;
        int changeGrades = NONE;

        Foresight(Works theWorks) {
            works = theWorks;
        }

        void forget() {
            shadeFor = 0;
            changeFor = 0;
        }

        void seekShade(Ground ground, Pit pit, int n) {
            if (shadeFor == n) {
                return;
            }
            shadeFor = n;
            shadePlace = NONE;
            shadeWorth = NONE;
            for (int place = 0; place < PLACES; place++) {
                if (pit.cells[place] == OPEN && place != ground.shaftPlace) {
                    tryShade(ground, pit, n, place);
                }
            }
        }

        private void tryShade(Ground ground, Pit pit, int n, int place) {
            trial.copy(pit);
            trial.cells[place] = CURTAINED;
            works.enter(ground, trial, ground.reach);
            works.pass(n);
            int left = trial.wholeWorth();
            if (left > shadeWorth) {
                shadePlace = place;
                shadeWorth = left;
            }
        }

        void seekChange(Ground ground, Pit pit, int n) {
            if (changeFor == n) {
                return;
            }
            changeFor = n;
            changeRow = NONE;
            changeOther = NONE;
            changeGrades = gradesBehind(ground, pit, n, 0, 0);
            for (int row = 0; row < ground.planRows; row++) {
                for (int other = row + 1; other < ground.planRows; other++) {
                    int grades = gradesBehind(ground, pit, n, row, other);
                    if (grades > changeGrades) {
                        changeRow = row;
                        changeOther = other;
                        changeGrades = grades;
                    }
                }
            }
        }

        private int gradesBehind(Ground ground, Pit pit, int n, int row, int other) {
            trial.copy(pit);
            trial.changeRows(row, other);
            works.enter(ground, trial, ground.reach);
            works.pass(n);
            return trial.tubGrades();
        }

        int oddsOf(Ground ground, Pit pit, int place) {
            int cells = ground.columns * ground.rows;
            int calm = openBehind(ground, pit, NONE, place);
            int count = calm * cells * (100 - ground.quake);
            for (int quaked = PLACE_OF_FIRST; quaked < ground.endOfPlaces(); quaked++) {
                if (pit.cells[quaked] != WALL) {
                    int opened = pit.isOpen(quaked) ? openBehind(ground, pit, quaked, place) : calm;
                    count += opened * ground.quake;
                }
            }
            return count;
        }

        private int openBehind(Ground ground, Pit pit, int quaked, int place) {
            trial.copy(pit);
            works.enter(ground, trial, ground.reach);
            works.closeCell(quaked);
            works.pass(1);
            return trial.isOpen(place) ? 1 : 0;
        }
    }

    /** What was FELT, and how far the light can reach by it. */
    private static final class Feeling {
        private static final int REACHES = REACH_MOST + 1;
        /* What a CELL shows: its GRADE, or behind these that it is OPEN. */
        private static final int SIGHTS = GRADES + 1;

        private final Works works;
        private final int[] rows = new int[FELT_BYTES * FELT_MOST];
        private final Pit[] pits = new Pit[REACHES];
        private final int[] tally = new int[SIGHTS];
        boolean isTold;
        int count;
        int tellingShifts = NONE;
        int tellingPlace = NONE;
        int tellingLeft = NONE;

        Feeling(Works theWorks) {
            works = theWorks;
            for (int reach = 0; reach < REACHES; reach++) {
                pits[reach] = new Pit();
            }
        }

        void forget() {
            isTold = false;
        }

        boolean take(Ground ground, Tape tape) {
            int told = tape.length / FELT_BYTES;
            if (tape.length % FELT_BYTES != 0 || told < 1 || told > FELT_MOST) {
                return false;
            }
            for (int row = 0; row < told; row++) {
                if (!canBeFelt(ground, tape.bytes, FELT_BYTES * row)) {
                    return false;
                }
            }
            System.arraycopy(tape.bytes, 0, rows, 0, tape.length);
            count = told;
            forget();
            return true;
        }

        private static boolean canBeFelt(Ground ground, int[] bytes, int at) {
            int sight = bytes[at + 3];
            return bytes[at] <= FEEL_AHEAD_MOST
                && ground.placeOf(bytes[at + 1], bytes[at + 2]) != NONE
                && (sight <= GRADE_MOST || sight == OPEN);
        }

        int reachBits(Ground ground, Pit pit) {
            int last = 0;
            for (int row = 0; row < count; row++) {
                last = Math.max(last, rows[FELT_BYTES * row]);
            }
            if (pit.shift + last > SHIFT_LAST) {
                return 0;
            }
            int bits = 0;
            for (int reach = 0; reach < REACHES; reach++) {
                if (agrees(ground, pit, reach, last)) {
                    bits |= 1 << reach;
                }
            }
            return bits;
        }

        private boolean agrees(Ground ground, Pit pit, int reach, int last) {
            Pit trial = pits[reach];
            trial.copy(pit);
            works.enter(ground, trial, reach);
            for (int n = 0; n <= last; n++) {
                if (!agreesBehind(ground, trial, n)) {
                    return false;
                }
                works.pass(1);
            }
            return true;
        }

        private boolean agreesBehind(Ground ground, Pit trial, int n) {
            for (int row = 0; row < count; row++) {
                int at = FELT_BYTES * row;
                if (rows[at] != n) {
                    continue;
                }
                int place = ground.placeOf(rows[at + 1], rows[at + 2]);
                int felt = rows[at + 3] == OPEN ? NONE : rows[at + 3];
                if (place == NONE || trial.gradeAt(place) != felt) {
                    return false;
                }
            }
            return true;
        }

        void seekTelling(Ground ground, Pit pit, int bits) {
            isTold = true;
            tellingPlace = NONE;
            tellingLeft = REACHES + 1;
            if (bits == 0) {
                return;
            }
            for (int reach = 0; reach < REACHES; reach++) {
                pits[reach].copy(pit);
            }
            int last = Math.min(FEEL_AHEAD_MOST, SHIFT_LAST - pit.shift);
            for (int n = 1; n <= last; n++) {
                passAll(ground, bits);
                tryAllCells(ground, pit, bits, n);
            }
        }

        private void passAll(Ground ground, int bits) {
            for (int reach = 0; reach < REACHES; reach++) {
                if ((bits >> reach & 1) == 1) {
                    works.enter(ground, pits[reach], reach);
                    works.pass(1);
                }
            }
        }

        private void tryAllCells(Ground ground, Pit pit, int bits, int n) {
            for (int place = PLACE_OF_FIRST; place < ground.endOfPlaces(); place++) {
                int left = pit.cells[place] == WALL ? tellingLeft : mostLeft(bits, place);
                if (left < tellingLeft) {
                    tellingShifts = n;
                    tellingPlace = place;
                    tellingLeft = left;
                }
            }
        }

        private int mostLeft(int bits, int place) {
            Arrays.fill(tally, 0);
            int most = 0;
            for (int reach = 0; reach < REACHES; reach++) {
                if ((bits >> reach & 1) == 1) {
                    int grade = pits[reach].gradeAt(place);
                    int sight = grade == NONE ? GRADES : grade;
                    tally[sight]++;
                    most = Math.max(most, tally[sight]);
                }
            }
            return most;
        }
    }

    /** What is told as KEPT, from the oldest on; how all was ahead of each of the last ACTS, in a ring. */
    private static final class History {
        final int[] keptParts = new int[KEPT_PARTS * KEPT_MOST];
        int keptCount;
        int acts;
        private int next;
        private final Pit[] pits = new Pit[ACTS_MOST];
        private final int[][] keptAhead = new int[ACTS_MOST][KEPT_PARTS * KEPT_MOST];
        private final int[] keptCountAhead = new int[ACTS_MOST];

        History() {
            for (int k = 0; k < ACTS_MOST; k++) {
                pits[k] = new Pit();
            }
        }

        void clear() {
            keptCount = 0;
            acts = 0;
        }

        void keep(int shift, int miner, int cell, int grade) {
            if (keptCount == KEPT_MOST) {
                System.arraycopy(keptParts, KEPT_PARTS, keptParts, 0, KEPT_PARTS * (KEPT_MOST - 1));
                keptCount--;
            }
            int at = KEPT_PARTS * keptCount;
            keptParts[at] = shift;
            keptParts[at + 1] = miner;
            keptParts[at + 2] = cell;
            keptParts[at + 3] = grade;
            keptCount++;
        }

        void put(Pit pit) {
            pits[next].copy(pit);
            System.arraycopy(keptParts, 0, keptAhead[next], 0, KEPT_PARTS * keptCount);
            keptCountAhead[next] = keptCount;
            next = (next + 1) % ACTS_MOST;
            acts = Math.min(ACTS_MOST, acts + 1);
        }

        boolean takeBack(Pit pit) {
            if (acts == 0) {
                return false;
            }
            acts--;
            next = (next + ACTS_MOST - 1) % ACTS_MOST;
            pit.copy(pits[next]);
            keptCount = keptCountAhead[next];
            System.arraycopy(keptAhead[next], 0, keptParts, 0, KEPT_PARTS * keptCount);
            return true;
        }
    }

    /** AN IMAGE: written, and read from the tape. */
    private static final class Image {
        private static final int SUM_AT_FIRST = 233;

        final int[] bytes = new int[IMAGE_MOST];
        int length;
        private final Tape tape;
        private int sum;
        /* The reading: where the next byte is, and whether all ahead of it was as it may be. */
        private int at;
        private boolean fits;

        Image(Tape theTape) {
            tape = theTape;
        }

        void write(Ground ground, Pit pit) {
            length = 0;
            sum = SUM_AT_FIRST;
            put(pit.shift >> 8);
            put(pit.shift & 255);
            put(pit.purse >> 16);
            put(pit.purse >> 8 & 255);
            put(pit.purse & 255);
            for (int row = 0; row < ground.rows; row++) {
                putAll(pit.cells, 8 * row + PLACE_OF_FIRST, ground.columns);
            }
            putAll(pit.hurts, 0, ground.miners);
            for (int row = 0; row < ground.planRows; row++) {
                put(pit.planMiners[row]);
                put(columnOf(pit.planPlaces[row]));
                put(rowOf(pit.planPlaces[row]));
            }
            putAll(pit.sold, 0, ground.orders);
            putAll(pit.tubCounts, 0, GRADES);
            put(sum);
        }

        private void putAll(int[] parts, int from, int count) {
            for (int k = 0; k < count; k++) {
                put(parts[from + k]);
            }
        }

        private void put(int octet) {
            if (length < IMAGE_MOST) {
                bytes[length] = octet;
                length++;
                sum = (5 * sum + octet) % 251;
            }
        }

        /** Whether the tape is AN IMAGE of this MINE: into is as it tells then, and free if not. */
        boolean tellsPit(Ground ground, Pit into) {
            at = 0;
            sum = SUM_AT_FIRST;
            fits = true;
            into.begin(ground);
            into.shift = next(255) << 8;
            into.shift += next(255);
            into.purse = next(255) << 16;
            into.purse += next(255) << 8;
            into.purse += next(255);
            takeCells(ground, into);
            takeAll(into.hurts, ground.miners, 1);
            takePlan(ground, into);
            takeAll(into.sold, ground.orders, 1);
            takeAll(into.tubCounts, GRADES, TUBS_MOST);
            int due = sum;
            return next(255) == due && fits && at == tape.length
                && into.shift <= SHIFT_LAST && into.purse <= PURSE_MOST;
        }

        private void takeCells(Ground ground, Pit into) {
            for (int place = PLACE_OF_FIRST; place < ground.endOfPlaces(); place++) {
                if (into.cells[place] == WALL) {
                    continue;
                }
                int told = next(OPEN);
                if (place == ground.shaftPlace) {
                    fits = fits && told == OPEN;
                } else {
                    fits = fits && (told <= GRADE_MOST || told >= CURTAINED);
                }
                into.cells[place] = told;
            }
        }

        private void takePlan(Ground ground, Pit into) {
            for (int row = 0; row < ground.planRows; row++) {
                into.planMiners[row] = next(ground.miners - 1);
                int column = next(ground.columns - 1);
                into.planPlaces[row] = ground.placeOf(column, next(ground.rows - 1));
            }
        }

        private void takeAll(int[] into, int count, int most) {
            for (int k = 0; k < count; k++) {
                into[k] = next(most);
            }
        }

        /** The next byte; 0 where there is none, or it is above most, and then the tape does not fit. */
        private int next(int most) {
            if (at >= tape.length || tape.bytes[at] > most) {
                fits = false;
                return 0;
            }
            int octet = tape.bytes[at];
            at++;
            sum = (5 * sum + octet) % 251;
            return octet;
        }
    }

    /** The words, numbers and signs of a text in their order, and its end. */
    private static final class Words {
        static final int END = 0;
        static final int OWN = 1;
        static final int NAME = 2;
        static final int NUMBER = 3;
        static final int SIGN = 4;
        static final int WRONG = 5;

        private static final int DIGITS_MOST = 4;
        private static final int OWN_WORDS_COUNT = 27;
        /* Six places each; the number of an OWN WORD is its row. */
        private static final String OWN_WORDS =
            "seam  by    shaft reach quake grade miner dig   at    order tubs  pays  spoilsfalls gets  depth shift far   open  lit   if    or    and   not   all   min   max   ";

        final int[] kinds = new int[TAPE_MOST + 1];
        final int[] starts = new int[TAPE_MOST + 1];
        /* Of an OWN WORD its number, of a NAME its letters, of a WRONG one the place that is wrong. */
        final int[] values = new int[TAPE_MOST + 1];
        private int count;
        /* Where the latest word or number ended: no other one may begin there. */
        private int plainEnd;

        void split(Tape tape) {
            count = 0;
            plainEnd = NONE;
            int at = 0;
            for (int k = 0; k < TAPE_MOST && at < tape.length; k++) {
                int octet = tape.bytes[at];
                if (isLetter(octet)) {
                    at = addWord(tape, at);
                } else if (isDigit(octet)) {
                    at = addNumber(tape, at);
                } else {
                    if (octet != ' ' && octet != '\n') {
                        add(SIGN, at, octet);
                    }
                    at++;
                }
            }
            add(END, tape.length, 0);
        }

        private int addWord(Tape tape, int start) {
            int end = start;
            while (end < tape.length && isLetter(tape.bytes[end])) {
                end++;
            }
            if (!addIfWrong(start, end, NAME_LETTERS)) {
                int own = ownWord(tape, start, end);
                if (own == NONE) {
                    add(NAME, start, lettersOf(tape, start, end));
                } else {
                    add(OWN, start, own);
                }
            }
            plainEnd = end;
            return end;
        }

        private int addNumber(Tape tape, int start) {
            int end = start;
            while (end < tape.length && isDigit(tape.bytes[end])) {
                end++;
            }
            if (!addIfWrong(start, end, DIGITS_MOST)) {
                int number = 0;
                for (int k = start; k < end; k++) {
                    number = 10 * number + tape.bytes[k] - '0';
                }
                add(NUMBER, start, number);
            }
            plainEnd = end;
            return end;
        }

        private boolean addIfWrong(int start, int end, int most) {
            if (end - start > most) {
                add(WRONG, start, start + most);
                return true;
            }
            if (start == plainEnd) {
                add(WRONG, start, start);
                return true;
            }
            return false;
        }

        private void add(int kind, int start, int value) {
            if (count <= TAPE_MOST) {
                kinds[count] = kind;
                starts[count] = start;
                values[count] = value;
                count++;
            }
        }

        private static int lettersOf(Tape tape, int start, int end) {
            int letters = 0;
            for (int k = 0; k < NAME_LETTERS; k++) {
                int letter = start + k < end ? tape.bytes[start + k] - 'a' + 1 : 0;
                letters = 27 * letters + letter;
            }
            return letters;
        }

        private static int ownWord(Tape tape, int start, int end) {
            for (int word = 0; word < OWN_WORDS_COUNT; word++) {
                int same = 0;
                for (int k = 0; k < NAME_LETTERS; k++) {
                    int letter = start + k < end ? tape.bytes[start + k] : ' ';
                    if (letter == OWN_WORDS.charAt(NAME_LETTERS * word + k)) {
                        same++;
                    }
                }
                if (same == NAME_LETTERS) {
                    return word;
                }
            }
            return NONE;
        }

        private static boolean isLetter(int octet) {
            return octet >= 'a' && octet <= 'z';
        }

        private static boolean isDigit(int octet) {
            return octet >= '0' && octet <= '9';
        }
    }

    /** Reads a MINE's text into a ground, up to the first FAULT along it. */
    private static final class Reader {
        private static final int FAULT_BYTE = 1;
        private static final int FAULT_NAME_AGAIN = 2;
        private static final int FAULT_NO_MINER = 3;
        private static final int FAULT_NUMBER = 4;
        private static final int FAULT_TOO_DEEP = 5;
        private static final int FAULT_TOO_MANY = 6;

        private static final int OPEN_MOST = 7;

        private static final int OWN_SEAM = 0;
        private static final int OWN_BY = 1;
        private static final int OWN_SHAFT = 2;
        private static final int OWN_REACH = 3;
        private static final int OWN_QUAKE = 4;
        private static final int OWN_GRADE = 5;
        private static final int OWN_MINER = 6;
        private static final int OWN_DIG = 7;
        private static final int OWN_AT = 8;
        private static final int OWN_ORDER = 9;
        private static final int OWN_TUBS = 10;
        private static final int OWN_PAYS = 11;
        private static final int OWN_SPOILS = 12;
        private static final int OWN_FALLS = 13;
        private static final int OWN_GETS = 14;
        private static final int OWN_DEPTH = 15;
        private static final int OWN_SHIFT = 16;
        private static final int OWN_FAR = 17;
        private static final int OWN_OPEN = 18;
        private static final int OWN_LIT = 19;
        private static final int OWN_IF = 20;
        private static final int OWN_OR = 21;
        private static final int OWN_AND = 22;
        private static final int OWN_NOT = 23;
        private static final int OWN_ALL = 24;
        private static final int OWN_MIN = 25;
        private static final int OWN_MAX = 26;

        int fault;
        int faultAt = NONE;
        private final Words words = new Words();
        private Ground ground;
        private int next;
        /* Of the number or the NAME that was taken last. */
        private int value;
        private int rule;
        private int stepCount;

        Reader(Ground firstGround) {
            ground = firstGround;
        }

        /** How many STATEMENTS; NONE with a FAULT. */
        int read(Tape tape, Ground newGround) {
            ground = newGround;
            ground.clear();
            fault = 0;
            faultAt = NONE;
            next = 0;
            stepCount = 0;
            words.split(tape);
            for (int statements = 0; statements <= STATEMENTS_MOST; statements++) {
                if (statements > 0 && words.kinds[next] == Words.END) {
                    return statements;
                }
                if (!readStatement(statements) || !takeSign(';')) {
                    return NONE;
                }
            }
            return NONE;
        }

        private boolean readStatement(int statements) {
            if (statements == STATEMENTS_MOST) {
                return fail(FAULT_TOO_MANY);
            }
            if (words.kinds[next] != Words.OWN || isOwn(OWN_SEAM) != (statements == 0)) {
                return fail(FAULT_BYTE);
            }
            switch (words.values[next]) {
                case OWN_SEAM: return readSeam();
                case OWN_SHAFT: return readShaft();
                case OWN_REACH: return readReach();
                case OWN_QUAKE: return readQuake();
                case OWN_GRADE: return readGrade();
                case OWN_MINER: return readMiner();
                case OWN_DIG: return readDig();
                case OWN_ORDER: return readOrder();
                case OWN_SPOILS: return readRule(SPOILS);
                case OWN_FALLS: return readRule(FALLS);
                case OWN_GETS: return readRule(GETS);
                default: return fail(FAULT_BYTE);
            }
        }

        private boolean readSeam() {
            pass();
            if (!takeNumber(3, 7)) {
                return false;
            }
            int columns = value;
            if (!takeOwn(OWN_BY) || !takeNumber(3, 7)) {
                return false;
            }
            ground.columns = columns;
            ground.rows = value;
            ground.shaftPlace = ground.placeOf(0, 0);
            return true;
        }

        private boolean readShaft() {
            pass();
            if (!takeNumber(0, ground.columns - 1)) {
                return false;
            }
            ground.shaftPlace = ground.placeOf(value, 0);
            return true;
        }

        private boolean readReach() {
            pass();
            if (!takeNumber(0, REACH_MOST)) {
                return false;
            }
            ground.reach = value;
            return true;
        }

        private boolean readQuake() {
            pass();
            if (!takeNumber(0, 100)) {
                return false;
            }
            ground.quake = value;
            return true;
        }

        private boolean readGrade() {
            pass();
            int place = takeCell();
            if (place == NONE || !takeNumber(0, GRADE_MOST)) {
                return false;
            }
            ground.grades[place] = value;
            return true;
        }

        private boolean readMiner() {
            if (ground.miners == MINERS_MOST) {
                return fail(FAULT_TOO_MANY);
            }
            pass();
            if (!takeNewName()) {
                return false;
            }
            ground.minerNames[ground.miners] = value;
            ground.miners++;
            return true;
        }

        private boolean readDig() {
            if (ground.planRows == PLAN_MOST) {
                return fail(FAULT_TOO_MANY);
            }
            pass();
            int miner = takeMiner();
            if (miner == NONE || !takeOwn(OWN_AT)) {
                return false;
            }
            int place = takeCell();
            if (place == NONE) {
                return false;
            }
            ground.planMiners[ground.planRows] = miner;
            ground.planPlaces[ground.planRows] = place;
            ground.planRows++;
            return true;
        }

        private boolean readOrder() {
            int order = ground.orders;
            if (order == ORDERS_MOST) {
                return fail(FAULT_TOO_MANY);
            }
            pass();
            if (!takeNewName()) {
                return false;
            }
            ground.orderNames[order] = value;
            if (!takeOwn(OWN_GRADE) || !takeNumber(0, GRADE_MOST)) {
                return false;
            }
            ground.orderGrades[order] = value;
            if (!takeOwn(OWN_TUBS) || !takeNumber(1, 9)) {
                return false;
            }
            ground.orderTubs[order] = value;
            if (!takeOwn(OWN_PAYS) || !takeNumber(0, 999)) {
                return false;
            }
            ground.orderPays[order] = value;
            ground.orders++;
            return true;
        }

        private boolean readRule(int newRule) {
            if (ground.hasRule(newRule)) {
                return fail(FAULT_TOO_MANY);
            }
            pass();
            rule = newRule;
            ground.ruleFrom[rule] = stepCount;
            boolean good = rule == FALLS ? readTest(0) : readSum(0);
            ground.ruleEnd[rule] = stepCount;
            return good;
        }

        /* From here on open tells how many of ( [ not are open: OPEN_MOST bounds how deep the calls go. */

        private boolean readTest(int open) {
            boolean good = readBoth(open);
            for (int k = 0; k < TAPE_MOST && good && isOwn(OWN_OR); k++) {
                pass();
                good = readBoth(open);
                put(STEP_OR);
            }
            return good;
        }

        private boolean readBoth(int open) {
            boolean good = readFact(open);
            for (int k = 0; k < TAPE_MOST && good && isOwn(OWN_AND); k++) {
                pass();
                good = readFact(open);
                put(STEP_AND);
            }
            return good;
        }

        private boolean readFact(int open) {
            if (isOwn(OWN_NOT)) {
                boolean good = passOpening(open) && readFact(open + 1);
                put(STEP_NOT);
                return good;
            }
            if (isSign('[')) {
                return passOpening(open) && readTest(open + 1) && takeSign(']');
            }
            if (isOwn(OWN_ALL)) {
                pass();
                put(STEP_ALL);
                return true;
            }
            return readComparing(open);
        }

        private boolean readComparing(int open) {
            if (!readSum(open)) {
                return false;
            }
            int step = comparingStep();
            if (step == 0) {
                return fail(FAULT_BYTE);
            }
            pass();
            boolean good = readSum(open);
            put(step);
            return good;
        }

        private boolean readSum(int open) {
            boolean good = readProduct(open);
            int step = sumStep();
            for (int k = 0; k < TAPE_MOST && good && step != 0; k++) {
                pass();
                good = readProduct(open);
                put(step);
                step = sumStep();
            }
            return good;
        }

        private boolean readProduct(int open) {
            boolean good = readPart(open);
            int step = productStep();
            for (int k = 0; k < TAPE_MOST && good && step != 0; k++) {
                pass();
                good = readPart(open);
                put(step);
                step = productStep();
            }
            return good;
        }

        private boolean readPart(int open) {
            if (isSign('(')) {
                return passOpening(open) && readSum(open + 1) && takeSign(')');
            }
            if (isOwn(OWN_IF)) {
                return readChoice(open);
            }
            if (isOwn(OWN_MIN)) {
                return readPair(open, STEP_MIN);
            }
            if (isOwn(OWN_MAX)) {
                return readPair(open, STEP_MAX);
            }
            if (words.kinds[next] == Words.NUMBER) {
                put(words.values[next]);
                pass();
                return true;
            }
            int step = factStep();
            if (step == 0) {
                return fail(FAULT_BYTE);
            }
            put(step);
            pass();
            return true;
        }

        private boolean readChoice(int open) {
            pass();
            boolean good = takeOpening(open) && readTest(open + 1)
                && takeSign(',') && readSum(open + 1)
                && takeSign(',') && readSum(open + 1) && takeSign(')');
            put(STEP_CHOOSE);
            return good;
        }

        private boolean readPair(int open, int step) {
            pass();
            boolean good = takeOpening(open) && readSum(open + 1)
                && takeSign(',') && readSum(open + 1) && takeSign(')');
            put(step);
            return good;
        }

        private boolean takeOpening(int open) {
            return isSign('(') ? passOpening(open) : fail(FAULT_BYTE);
        }

        private boolean passOpening(int open) {
            if (open >= OPEN_MOST) {
                return fail(FAULT_TOO_DEEP);
            }
            pass();
            return true;
        }

        private int comparingStep() {
            if (isSign('<')) {
                return STEP_BELOW;
            }
            if (isSign('>')) {
                return STEP_ABOVE;
            }
            return isSign('=') ? STEP_LIKE : 0;
        }

        private int sumStep() {
            if (isSign('+')) {
                return STEP_ADD;
            }
            return isSign('-') ? STEP_LESSEN : 0;
        }

        private int productStep() {
            if (isSign('*')) {
                return STEP_TIMES;
            }
            if (isSign('/')) {
                return STEP_DIVIDE;
            }
            return isSign('%') ? STEP_REST : 0;
        }

        private int factStep() {
            if (words.kinds[next] != Words.OWN) {
                return 0;
            }
            switch (words.values[next]) {
                case OWN_GRADE: return STEP_GRADE;
                case OWN_DEPTH: return STEP_DEPTH;
                case OWN_SHIFT: return STEP_SHIFT;
                case OWN_FAR: return rule == SPOILS ? STEP_FAR : 0;
                case OWN_OPEN: return rule == SPOILS ? 0 : STEP_OPEN;
                case OWN_LIT: return rule == SPOILS ? 0 : STEP_LIT;
                default: return 0;
            }
        }

        private void put(int step) {
            if (stepCount < TAPE_MOST) {
                ground.steps[stepCount] = step;
                stepCount++;
            }
        }

        private int takeCell() {
            if (!takeNumber(0, ground.columns - 1)) {
                return NONE;
            }
            int column = value;
            if (!takeNumber(0, ground.rows - 1)) {
                return NONE;
            }
            return ground.placeOf(column, value);
        }

        private boolean takeNumber(int least, int most) {
            if (words.kinds[next] != Words.NUMBER) {
                return fail(FAULT_BYTE);
            }
            value = words.values[next];
            if (value < least || value > most) {
                return fail(FAULT_NUMBER);
            }
            pass();
            return true;
        }

        private boolean takeNewName() {
            if (words.kinds[next] != Words.NAME) {
                return fail(FAULT_BYTE);
            }
            value = words.values[next];
            if (ground.hasName(value)) {
                return fail(FAULT_NAME_AGAIN);
            }
            pass();
            return true;
        }

        private int takeMiner() {
            if (words.kinds[next] != Words.NAME) {
                fail(FAULT_BYTE);
                return NONE;
            }
            int miner = ground.minerNamed(words.values[next]);
            if (miner == NONE) {
                fail(FAULT_NO_MINER);
                return NONE;
            }
            pass();
            return miner;
        }

        private boolean takeOwn(int word) {
            if (!isOwn(word)) {
                return fail(FAULT_BYTE);
            }
            pass();
            return true;
        }

        private boolean takeSign(int sign) {
            if (!isSign(sign)) {
                return fail(FAULT_BYTE);
            }
            pass();
            return true;
        }

        private boolean isOwn(int word) {
            return words.kinds[next] == Words.OWN && words.values[next] == word;
        }

        private boolean isSign(int sign) {
            return words.kinds[next] == Words.SIGN && words.values[next] == sign;
        }

        private void pass() {
            if (words.kinds[next] != Words.END) {
                next++;
            }
        }

        private boolean fail(int newFault) {
            boolean within = newFault == FAULT_BYTE && words.kinds[next] == Words.WRONG;
            fault = newFault;
            faultAt = within ? words.values[next] : words.starts[next];
            return false;
        }
    }
}
