/** Promises 6 to 12: has, letter, cell, hurt, plan, order, tubs; and what rules answer (terms I, II). */
public final class AskedTest {
    private static final String MINE = "seam 3 by 3;miner a;miner bobzyx;dig a at 0 1;dig bobzyx at 0 2;dig a at 1 1;"
        + "order o grade 4 tubs 2 pays 30;order pq grade 0 tubs 1 pays 5;";
    private static final Check CHECK = new Check();

    public static void main(String[] args) {
        has();
        letter();
        cell();
        safe();
        hurt();
        plan();
        order();
        tubs();
        sums();
        tests();
        facts();
        spoiling();
        deepest();
        CHECK.end();
    }

    private static void has() {
        CHECK.mine(MINE);
        CHECK.x.shifts(3);
        int[] want = {3, 3, 2, 3, 2, 3, 4, 4, 0, 0, 3, 0, 31, 3, 0, 1, 1};
        for (int what = 0; what < want.length; what++) {
            CHECK.due("has(" + what + ")", CHECK.x.has(what), want[what]);
        }
        CHECK.due("has(17)", CHECK.x.has(17), -1);
        CHECK.due("has(-1)", CHECK.x.has(-1), -1);
        CHECK.x.hang(0, 1, 1);
        CHECK.due("open with a curtain", CHECK.x.has(6), 4);
        CHECK.due("lit with a curtain", CHECK.x.has(7), 1);
        CHECK.due("curtains", CHECK.x.has(8), 1);
        CHECK.x.sell(0);
        CHECK.due("tubs", CHECK.x.has(10), 1);
        CHECK.due("purse", CHECK.x.has(11), 30);
        CHECK.due("worth", CHECK.x.has(12), 22);
        CHECK.due("acts", CHECK.x.has(15), 3);
        CHECK.put(0, 0, 0, 255, 1, 1, 1, 255);
        CHECK.x.feel();
        CHECK.due("felt", CHECK.x.has(14), 2);
        CHECK.x.seed(2147483647);
        CHECK.due("seed", CHECK.x.has(16), 2147483647);
        CHECK.mine("seam 3 by 3;miner a;dig a at 0 1;falls all;");
        CHECK.x.shifts(1);
        CHECK.due("hurt", CHECK.x.has(9), 1);
    }

    private static void letter() {
        CHECK.mine(MINE);
        int[] want = {2, 15, 2, 26, 25, 24};
        for (int k = 0; k < 6; k++) {
            CHECK.due("letter(0, 1, " + k + ")", CHECK.x.letter(0, 1, k), want[k]);
            CHECK.due("letter(0, 0, " + k + ")", CHECK.x.letter(0, 0, k), k == 0 ? 1 : 0);
        }
        CHECK.due("the first order's", CHECK.x.letter(1, 0, 0), 15);
        CHECK.due("an order's first", CHECK.x.letter(1, 1, 0), 16);
        CHECK.due("an order's second", CHECK.x.letter(1, 1, 1), 17);
        CHECK.due("an order's third", CHECK.x.letter(1, 1, 2), 0);
        CHECK.due("letter 6", CHECK.x.letter(0, 1, 6), -1);
        CHECK.due("letter -1", CHECK.x.letter(0, 1, -1), -1);
        CHECK.due("miner 2", CHECK.x.letter(0, 2, 0), -1);
        CHECK.due("miner -1", CHECK.x.letter(0, -1, 0), -1);
        CHECK.due("order 2", CHECK.x.letter(1, 2, 0), -1);
        CHECK.due("order -1", CHECK.x.letter(1, -1, 0), -1);
        CHECK.due("kind 2", CHECK.x.letter(2, 0, 0), -1);
        CHECK.due("kind -1", CHECK.x.letter(-1, 0, 0), -1);
    }

    private static int[] cellAll(int column, int row) {
        int[] all = new int[6];
        for (int what = 0; what < 6; what++) {
            all[what] = CHECK.x.cell(column, row, what);
        }
        return all;
    }

    private static void cell() {
        CHECK.mine(MINE + "reach 1;");
        CHECK.x.shifts(3);
        CHECK.dueAll("the shaft's", cellAll(0, 0), -1, 1, 1, 0, 0, 0);
        CHECK.dueAll("lit", cellAll(0, 1), -1, 1, 1, 0, 1, 0);
        CHECK.dueAll("too far for light", cellAll(1, 1), -1, 1, 0, 0, 2, 0);
        CHECK.dueAll("beside the shaft", cellAll(1, 0), 2, 0, 0, 0, -1, 1);
        CHECK.dueAll("beside dark ones", cellAll(1, 2), 5, 0, 0, 0, -1, 1);
        CHECK.dueAll("in the rock", cellAll(2, 2), 5, 0, 0, 0, -1, 0);
        CHECK.x.hang(0, 1, 1);
        CHECK.dueAll("with a curtain", cellAll(0, 1), -1, 1, 0, 1, 1, 0);
        CHECK.dueAll("behind a curtain", cellAll(1, 1), -1, 1, 0, 0, -1, 0);
        for (int[] none : new int[][] {{3, 0}, {0, 3}, {-1, 0}, {0, -1}}) {
            for (int what = 0; what < 6; what++) {
                CHECK.due("none such", CHECK.x.cell(none[0], none[1], what), -1);
            }
        }
        CHECK.due("what 6", CHECK.x.cell(0, 0, 6), -1);
        CHECK.due("what -1", CHECK.x.cell(0, 0, -1), -1);
    }

    private static void safe() {
        CHECK.mine("seam 3 by 3;falls grade=7 or shift=1;grade 1 0 7;");
        CHECK.due("it falls", CHECK.x.cell(1, 0, 5), 0);
        CHECK.due("it does not", CHECK.x.cell(0, 1, 5), 1);
        CHECK.due("not beside an open one", CHECK.x.cell(1, 1, 5), 0);
        CHECK.due("open", CHECK.x.cell(0, 0, 5), 0);
        CHECK.x.shifts(1);
        CHECK.due("all fall now", CHECK.x.cell(0, 1, 5), 0);
        CHECK.x.shifts(1);
        CHECK.due("none falls now", CHECK.x.cell(1, 0, 5), 1);
        CHECK.mine("seam 3 by 3;reach 0;miner a;dig a at 0 1;falls lit=1 and shift>0;");
        CHECK.x.shifts(1);
        CHECK.due("beside light", CHECK.x.cell(1, 0, 5), 0);
        CHECK.due("beside a dark one", CHECK.x.cell(1, 1, 5), 1);
        CHECK.mine("seam 3 by 3;miner a;dig a at 0 1;falls lit=1 and shift>0;");
        CHECK.x.shifts(1);
        CHECK.due("light", CHECK.x.cell(1, 1, 5), 0);
        CHECK.x.hang(0, 1, 1);
        CHECK.due("a curtain", CHECK.x.cell(1, 1, 5), 1);
    }

    private static void hurt() {
        CHECK.mine(MINE + "falls shift=1;");
        CHECK.x.shifts(2);
        CHECK.due("not hurt", CHECK.x.hurt(0), 0);
        CHECK.due("hurt", CHECK.x.hurt(1), 1);
        CHECK.due("none such", CHECK.x.hurt(2), -1);
        CHECK.due("none below", CHECK.x.hurt(-1), -1);
    }

    private static void plan() {
        CHECK.mine(MINE);
        int[][] want = {{0, 0, 1}, {1, 0, 2}, {0, 1, 1}};
        for (int k = 0; k < 3; k++) {
            for (int what = 0; what < 3; what++) {
                CHECK.due("plan(" + k + ", " + what + ")", CHECK.x.plan(k, what), want[k][what]);
            }
        }
        CHECK.due("row 3", CHECK.x.plan(3, 0), -1);
        CHECK.due("row -1", CHECK.x.plan(-1, 0), -1);
        CHECK.due("what 3", CHECK.x.plan(0, 3), -1);
        CHECK.due("what -1", CHECK.x.plan(0, -1), -1);
        CHECK.x.send(1, 0, 2, 1);
        CHECK.due("miner anew", CHECK.x.plan(1, 0), 0);
        CHECK.due("column anew", CHECK.x.plan(1, 1), 2);
        CHECK.due("row anew", CHECK.x.plan(1, 2), 1);
    }

    private static int[] orderAll(int order) {
        int[] all = new int[5];
        for (int what = 0; what < 5; what++) {
            all[what] = CHECK.x.order(order, what);
        }
        return all;
    }

    private static void order() {
        CHECK.mine(MINE);
        CHECK.dueAll("at first", orderAll(0), 4, 2, 30, 0, 0);
        CHECK.dueAll("the other", orderAll(1), 0, 1, 5, 0, 0);
        CHECK.x.shifts(1);
        CHECK.dueAll("one tub", orderAll(0), 4, 2, 30, 0, 0);
        CHECK.dueAll("one is enough", orderAll(1), 0, 1, 5, 0, 1);
        CHECK.x.shifts(1);
        CHECK.dueAll("two tubs", orderAll(0), 4, 2, 30, 0, 1);
        CHECK.x.sell(0);
        CHECK.dueAll("sold", orderAll(0), 4, 2, 30, 1, 0);
        CHECK.dueAll("no tubs left", orderAll(1), 0, 1, 5, 0, 0);
        CHECK.due("order 2", CHECK.x.order(2, 0), -1);
        CHECK.due("order -1", CHECK.x.order(-1, 0), -1);
        CHECK.due("what 5", CHECK.x.order(0, 5), -1);
        CHECK.due("what -1", CHECK.x.order(0, -1), -1);
    }

    private static void tubs() {
        CHECK.mine(MINE);
        CHECK.x.shifts(3);
        int[] want = {0, 0, 0, 1, 1, 1, 0, 0, 0, 0};
        for (int grade = 0; grade < 10; grade++) {
            CHECK.due("tubs(" + grade + ")", CHECK.x.tubs(grade), want[grade]);
        }
        CHECK.due("tubs(10)", CHECK.x.tubs(10), -1);
        CHECK.due("tubs(-1)", CHECK.x.tubs(-1), -1);
    }

    /** The first digging has that grade by the sum. */
    private static void got(String sum, int want) {
        CHECK.mine("seam 3 by 3;grade 0 1 6;miner a;dig a at 0 1;gets " + sum + ";");
        CHECK.x.shifts(1);
        CHECK.due("gets " + sum, CHECK.x.kept(0, 3), want);
        CHECK.due("a tub by gets " + sum, CHECK.x.tubs(want), 1);
    }

    private static void sums() {
        got("0", 0);
        got("10", 9);
        got("0-1", 0);
        got("2+3*2", 8);
        got("9-3-2", 4);
        got("8/2/2", 2);
        got("8/2*2", 8);
        got("17%10%4", 3);
        got("7/2", 3);
        got("(0-7)/2+8", 4);
        got("7/(0-2)+8", 4);
        got("(0-7)/(0-2)", 3);
        got("(0-7)%3+5", 7);
        got("7%(0-3)+9", 7);
        got("(0-7)%(0-3)+5", 4);
        got("5/0+3", 3);
        got("5%0+3", 3);
        got("9999*9999/1000/125", 8);
        got("(0-9999)*9999/1000/125+9", 1);
        got("(1000*1000+1000-1000*1000)/100", 0);
        got("(0-1000*1000-1000+1000*1000)/100+5", 5);
        got("min(3,7)", 3);
        got("min(7,3)+max(1,2)", 5);
        got("max(3,7)", 7);
        got("if(1<2,3,4)", 3);
        got("if(2<1,3,4)", 4);
        got("2*(1+if(all,min(2,3),9))", 6);
    }

    private static void holds(String test, boolean want) {
        got("if(" + test + ",1,2)", want ? 1 : 2);
        fallsBy(test, want);
    }

    private static void fallsBy(String test, boolean want) {
        CHECK.mine("seam 3 by 3;grade 0 1 6;miner a;dig a at 0 1;falls " + test + ";");
        CHECK.x.shifts(1);
        CHECK.due("falls " + test, CHECK.x.hurt(0), want ? 1 : 0);
    }

    private static void tests() {
        holds("all", true);
        holds("not all", false);
        holds("not not all", true);
        holds("2<2", false);
        holds("1<2", true);
        holds("2>2", false);
        holds("3>2", true);
        holds("2=2", true);
        holds("2=3", false);
        holds("all or all and not all", true);
        holds("[all or all] and not all", false);
        holds("not all and all or all", true);
        holds("not all or all", true);
        holds("not [all or all]", false);
        holds("not all and not all", false);
        holds("not all and all", false);
        holds("all and not all", false);
        holds("all or not all", true);
        holds("not all or not all", false);
        holds("1=2 or 2=2", true);
        holds("1=1 and 2=1", false);
        holds("not 1=2 and 2=2", true);
        holds("1+1=3-1", true);
        CHECK.mine("seam 3 by 3;reach 0;miner a;miner b;dig a at 0 1;dig b at 0 2;falls if(all,lit,7)=0;");
        CHECK.x.shifts(2);
        CHECK.due("all in the dark", CHECK.x.hurt(1), 1);
    }

    private static void facts() {
        got("grade", 6);
        got("depth+3", 4);
        got("shift", 0);
        got("open", 1);
        got("lit", 1);
        CHECK.mine("seam 3 by 3;reach 0;miner a;dig a at 0 1;dig a at 1 1;dig a at 1 0;dig a at 2 1;"
            + "gets if(shift=2,open*3,lit+shift*2);");
        CHECK.x.shifts(4);
        CHECK.due("lit by the shaft", CHECK.x.kept(0, 3), 1);
        CHECK.due("beside a dark one", CHECK.x.kept(1, 3), 2);
        CHECK.due("two open beside it", CHECK.x.kept(2, 3), 6);
        CHECK.due("the shift", CHECK.x.kept(3, 3), 6);
        // by what is so ahead of the digging: the curtain's cell is open, but not lit
        CHECK.mine("seam 3 by 3;miner a;dig a at 0 1;dig a at 0 2;gets open+2*lit;");
        CHECK.x.shifts(1);
        CHECK.due("open and lit", CHECK.x.kept(0, 3), 3);
        CHECK.x.hang(0, 1, 1);
        CHECK.x.shifts(1);
        CHECK.due("open with a curtain", CHECK.x.kept(1, 3), 1);
        CHECK.mine("seam 3 by 3;miner a;dig a at 0 1;");
        CHECK.x.shifts(1);
        CHECK.due("without gets", CHECK.x.kept(0, 3), 5);
    }

    private static void spoiled(String rule, int want) {
        CHECK.mine("seam 3 by 3;grade 1 0 9;grade 1 1 9;" + rule);
        CHECK.x.shifts(1);
        CHECK.due(rule, CHECK.x.cell(1, 0, 0), want);
        CHECK.due(rule + " away from light", CHECK.x.cell(1, 1, 0), 9);
    }

    private static void spoiling() {
        spoiled("", 8);
        spoiled("spoils 2;", 7);
        spoiled("spoils 0-2;", 9);
        spoiled("spoils 10;", 0);
        spoiled("spoils grade/2;", 5);
        spoiled("spoils depth+shift+far;", 9);
        // the nearest lit one counts, and light comes behind the digging of the same shift
        CHECK.mine("seam 3 by 3;reach 2;miner a;dig a at 0 1;dig a at 0 2;dig a at 1 2;spoils far+1;");
        CHECK.x.shifts(1);
        CHECK.dueAll("far 1", grades(), -1, 4, 5, -1, 3, 5, 3, 5, 5);
        CHECK.x.shifts(2);
        CHECK.dueAll("no light beyond reach", grades(), -1, 2, 5, -1, 0, 5, -1, -1, 5);
    }

    private static int[] grades() {
        int[] all = new int[9];
        for (int k = 0; k < 9; k++) {
            all[k] = CHECK.x.cell(k % 3, k / 3, 0);
        }
        return all;
    }

    /** Seven that are open at once, with all that can wait ahead of each. */
    private static void deepest() {
        StringBuilder s = new StringBuilder("1=2 or 1=1 and 3<1+2*");
        for (int k = 0; k < 7; k++) {
            s.append("if(1=2 or 1=1 and 3<1+2*");
        }
        s.append("9");
        for (int k = 0; k < 7; k++) {
            s.append(",4,0)");
        }
        fallsBy(s.toString(), true);
        CHECK.mine("seam 3 by 3;grade 0 1 6;miner a;dig a at 0 1;gets 1+2*min(1,1+1*min(1,1+1*min(1,1+1*min(1,1+1*"
            + "min(1,1+1*min(1,1+1*if(1=2 or 1=2 and 1<2,5,0)))))));");
        CHECK.x.shifts(1);
        CHECK.due("seven deep", CHECK.x.kept(0, 3), 3);
    }
}
