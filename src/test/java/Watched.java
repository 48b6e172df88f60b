/** A DarkMine whose calls are counted: behind the 512th nothing is promised, so no test may go there. */
final class Watched {
    static final int CALLS_MOST = 512;
    private final DarkMine mine = new DarkMine();
    private int calls = 0;

    int calls() {
        return calls;
    }

    private DarkMine next() {
        calls++;
        if (calls > CALLS_MOST) {
            throw new IllegalStateException("a test calls one object more than 512 times");
        }
        return mine;
    }

    int feed(int a, int b, int c, int d, int e) {
        return next().feed(a, b, c, d, e);
    }

    boolean end(int n) {
        return next().end(n);
    }

    int mine() {
        return next().mine();
    }

    int fault(int what) {
        return next().fault(what);
    }

    int has(int what) {
        return next().has(what);
    }

    int letter(int kind, int which, int k) {
        return next().letter(kind, which, k);
    }

    int cell(int column, int row, int what) {
        return next().cell(column, row, what);
    }

    int hurt(int miner) {
        return next().hurt(miner);
    }

    int plan(int k, int what) {
        return next().plan(k, what);
    }

    int order(int order, int what) {
        return next().order(order, what);
    }

    int tubs(int grade) {
        return next().tubs(grade);
    }

    int later(int column, int row, int n) {
        return next().later(column, row, n);
    }

    int opens(int column, int row) {
        return next().opens(column, row);
    }

    int worth(int n) {
        return next().worth(n);
    }

    int shade(int n, int what) {
        return next().shade(n, what);
    }

    int change(int n, int what) {
        return next().change(n, what);
    }

    int sale(int what) {
        return next().sale(what);
    }

    int odds(int column, int row) {
        return next().odds(column, row);
    }

    int feel() {
        return next().feel();
    }

    int reaches() {
        return next().reaches();
    }

    int tells(int what) {
        return next().tells(what);
    }

    int shifts(int n) {
        return next().shifts(n);
    }

    int chance(int n) {
        return next().chance(n);
    }

    boolean hang(int column, int row, int on) {
        return next().hang(column, row, on);
    }

    boolean send(int k, int miner, int column, int row) {
        return next().send(k, miner, column, row);
    }

    boolean heal(int miner) {
        return next().heal(miner);
    }

    int sell(int order) {
        return next().sell(order);
    }

    boolean undo() {
        return next().undo();
    }

    boolean seed(int seed) {
        return next().seed(seed);
    }

    int kept(int k, int what) {
        return next().kept(k, what);
    }

    int image() {
        return next().image();
    }

    int octet(int k) {
        return next().octet(k);
    }

    boolean on() {
        return next().on();
    }

    int status(int what) {
        return next().status(what);
    }
}
