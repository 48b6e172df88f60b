/** Promises 13 to 22: later, opens, worth, shade, change, sale, odds, feel, reaches, tells. */
public final class AheadTest {
    private static final String MINE = "seam 3 by 3;miner a;miner b;dig a at 0 1;dig b at 0 2;dig a at 1 1;";
    private static final int ALL_REACHES = 2097151;
    private static final Check CHECK = new Check();

    public static void main(String[] args) {
        later();
        opens();
        worth();
        nothingChanges();
        shade();
        change();
        sale();
        odds();
        feel();
        reaches();
        tells();
        CHECK.end();
    }

    private static void later() {
        CHECK.mine(MINE);
        for (int n = 0; n <= 40; n++) {
            CHECK.due("later(1, 0, " + n + ")", CHECK.x.later(1, 0, n), Math.max(0, 5 - n));
        }
        CHECK.due("solid", CHECK.x.later(0, 1, 0), 5);
        CHECK.due("open then", CHECK.x.later(0, 1, 1), -1);
        CHECK.due("spoiled", CHECK.x.later(1, 1, 2), 3);
        CHECK.due("n 41", CHECK.x.later(1, 0, 41), -1);
        CHECK.due("n -1", CHECK.x.later(1, 0, -1), -1);
        CHECK.due("no column", CHECK.x.later(3, 0, 0), -1);
        CHECK.due("no row", CHECK.x.later(0, -1, 0), -1);
        CHECK.at(990);
        CHECK.due("to shift 999", CHECK.x.later(1, 0, 9), 0);
        CHECK.due("beyond shift 999", CHECK.x.later(2, 2, 10), -1);
        CHECK.due("at shift 999", CHECK.x.later(2, 2, 9), 5);
    }

    private static void opens() {
        CHECK.mine(MINE);
        CHECK.due("now", CHECK.x.opens(0, 0), 0);
        CHECK.due("opens(0, 1)", CHECK.x.opens(0, 1), 1);
        CHECK.due("opens(0, 2)", CHECK.x.opens(0, 2), 2);
        CHECK.due("opens(1, 1)", CHECK.x.opens(1, 1), 3);
        CHECK.due("never", CHECK.x.opens(2, 2), -1);
        CHECK.due("no column", CHECK.x.opens(3, 0), -1);
        CHECK.due("no row", CHECK.x.opens(0, 3), -1);
        CHECK.at(996);
        CHECK.due("at shift 999", CHECK.x.opens(1, 1), 3);
        CHECK.at(997);
        CHECK.due("no way to it", CHECK.x.opens(0, 2), -1);
        CHECK.at(999);
        CHECK.due("no shift comes", CHECK.x.opens(0, 1), -1);
        CHECK.due("open at shift 999", CHECK.x.opens(0, 0), 0);
        CHECK.mine("seam 3 by 3;miner a;dig a at 2 2;dig a at 0 1;falls shift<39;");
        CHECK.due("hurt for good", CHECK.x.opens(0, 1), -1);
        // column c is dug by row 6 - c of eight in turn c - 1: behind 7 c - 1 shifts
        CHECK.mine("seam 7 by 7;miner a;" + plan(new int[] {6, 5, 4, 3, 2, 1}) + "dig a at 6 6;dig a at 6 6;");
        CHECK.due("34 behind", CHECK.x.opens(5, 0), 34);
        CHECK.due("41 behind", CHECK.x.opens(6, 0), -1);
        CHECK.x.shifts(1);
        CHECK.due("40 behind", CHECK.x.opens(6, 0), 40);
    }

    /** Rows that dig along the top from the far end on: each turn opens one cell. */
    private static String plan(int[] columns) {
        StringBuilder s = new StringBuilder();
        for (int column : columns) {
            s.append("dig a at ").append(column).append(" 0;");
        }
        return s.toString();
    }

    private static void worth() {
        CHECK.mine(MINE);
        int[] want = {40, 37, 34, 31, 28};
        for (int n = 0; n < want.length; n++) {
            CHECK.due("worth(" + n + ")", CHECK.x.worth(n), want[n]);
        }
        CHECK.due("worth(40)", CHECK.x.worth(40), 22);
        CHECK.due("worth(41)", CHECK.x.worth(41), -1);
        CHECK.due("worth(-1)", CHECK.x.worth(-1), -1);
        CHECK.at(998);
        CHECK.due("to shift 999", CHECK.x.worth(1) > 0, true);
        CHECK.due("beyond shift 999", CHECK.x.worth(2), -1);
        CHECK.fresh();
        CHECK.due("without a seam", CHECK.x.worth(0), -1);
    }

    private static void nothingChanges() {
        CHECK.mine(MINE + "quake 50;");
        int[] ahead = CHECK.image();
        CHECK.x.later(1, 1, 40);
        CHECK.x.opens(2, 2);
        CHECK.x.worth(40);
        CHECK.x.shade(20, 0);
        CHECK.x.change(20, 0);
        CHECK.x.sale(0);
        CHECK.x.odds(0, 1);
        CHECK.x.reaches();
        CHECK.x.tells(0);
        CHECK.dueAll("asking changes nothing", CHECK.image(), ahead);
        CHECK.due("nor the seed", CHECK.x.has(16), 1);
        CHECK.due("nor what is kept", CHECK.x.has(13), 0);
        CHECK.due("nor the acts", CHECK.x.has(15), 0);
    }

    private static void shadeIs(String what, int n, int column, int row, int worth) {
        CHECK.due(what + ": column", CHECK.x.shade(n, 0), column);
        CHECK.due(what + ": row", CHECK.x.shade(n, 1), row);
        CHECK.due(what + ": worth", CHECK.x.shade(n, 2), worth);
    }

    private static void shade() {
        CHECK.mine(MINE);
        shadeIs("the shaft's alone", 1, -1, -1, -1);
        CHECK.x.shifts(3);
        shadeIs("three cells", 1, 0, 1, 30);
        CHECK.due("what 3", CHECK.x.shade(1, 3), -1);
        CHECK.due("what -1", CHECK.x.shade(1, -1), -1);
        shadeIs("n 0", 0, -1, -1, -1);
        shadeIs("n 21", 21, -1, -1, -1);
        shadeIs("n 20", 20, 0, 1, 29);
        CHECK.x.hang(0, 1, 1);
        shadeIs("all are dark, the first that has none", 1, 1, 1, 30);
        CHECK.x.hang(0, 1, 0);
        shadeIs("taken down", 1, 0, 1, 30);
        CHECK.at(999);
        shadeIs("no shift comes", 1, -1, -1, -1);
        CHECK.mine("seam 3 by 3;miner a;dig a at 0 1;dig a at 1 0;");
        CHECK.x.shifts(2);
        shadeIs("of like ones the first", 1, 1, 0, 32);
    }

    private static void changeIs(String what, int n, int row, int other, int grades) {
        CHECK.due(what + ": row", CHECK.x.change(n, 0), row);
        CHECK.due(what + ": other", CHECK.x.change(n, 1), other);
        CHECK.due(what + ": grades", CHECK.x.change(n, 2), grades);
    }

    private static void change() {
        CHECK.mine(MINE);
        changeIs("none is more", 1, -1, -1, -1);
        CHECK.mine("seam 3 by 3;grade 1 0 9;miner a;dig a at 0 1;dig a at 2 2;dig a at 1 0;");
        changeIs("one shift", 1, 0, 2, 9);
        changeIs("three shifts", 3, 1, 2, 13);
        changeIs("one shift again", 1, 0, 2, 9);
        CHECK.due("what 3", CHECK.x.change(1, 3), -1);
        CHECK.due("what -1", CHECK.x.change(1, -1), -1);
        changeIs("n 0", 0, -1, -1, -1);
        changeIs("n 21", 21, -1, -1, -1);
        changeIs("n 20", 20, 1, 2, 13);
        CHECK.x.send(1, 0, 1, 0);
        CHECK.x.send(2, 0, 2, 2);
        changeIs("a plan told anew", 1, 0, 1, 9);
        CHECK.at(998);
        changeIs("shift 998 is of row 2", 1, 1, 2, 9);
        changeIs("beyond shift 999", 2, -1, -1, -1);
        CHECK.mine("seam 3 by 3;grade 1 0 9;miner a;dig a at 0 1;dig a at 1 0;dig a at 1 0;");
        changeIs("of like ones the first pair", 1, 0, 1, 9);
        CHECK.mine("seam 3 by 3;");
        changeIs("without a plan", 1, -1, -1, -1);
        // tubs that are there already count: 9 more of grade 9
        CHECK.mine("seam 3 by 3;grade 1 0 9;miner a;dig a at 0 1;dig a at 1 0;");
        int[] bytes = CHECK.image();
        bytes[bytes.length - 2] = 9;
        CHECK.put(Check.summed(bytes));
        CHECK.x.on();
        changeIs("with tubs", 1, 0, 1, 90);
    }

    private static void saleIs(String what, int set, int paid, int sold, int... tubs) {
        int[] bytes = CHECK.image();
        for (int order = 0; order < 4; order++) {
            bytes[14 + order] = sold >> order & 1;
        }
        System.arraycopy(tubs, 0, bytes, 18, 10);
        CHECK.put(Check.summed(bytes));
        CHECK.due("on()", CHECK.x.on(), true);
        CHECK.due(what + ": set", CHECK.x.sale(0), set);
        CHECK.due(what + ": paid", CHECK.x.sale(1), paid);
    }

    private static void sale() {
        CHECK.mine("seam 3 by 3;order a grade 5 tubs 2 pays 30;order b grade 3 tubs 2 pays 30;"
            + "order c grade 7 tubs 1 pays 10;order d grade 0 tubs 1 pays 0;");
        saleIs("no tubs", 0, 0, 0, 0, 0, 0, 0, 0, 0, 0, 0, 0, 0);
        saleIs("a tub for nothing", 0, 0, 0, 3, 0, 0, 0, 0, 0, 0, 0, 0, 0);
        saleIs("the least bits", 1, 30, 0, 0, 0, 0, 0, 0, 1, 0, 1, 0, 0);
        saleIs("each tub once", 3, 60, 0, 0, 0, 0, 2, 0, 2, 0, 0, 0, 0);
        saleIs("enough for all", 7, 70, 0, 0, 0, 0, 0, 0, 0, 0, 0, 0, 5);
        saleIs("one is not for two", 6, 40, 0, 0, 0, 0, 1, 0, 1, 0, 1, 0, 0);
        saleIs("low tubs help not", 2, 30, 0, 0, 0, 0, 9, 9, 1, 0, 0, 0, 0);
        saleIs("without what is sold", 5, 40, 2, 0, 0, 0, 0, 0, 0, 0, 0, 0, 5);
        CHECK.due("what 2", CHECK.x.sale(2), -1);
        CHECK.due("what -1", CHECK.x.sale(-1), -1);
        CHECK.fresh();
        CHECK.due("without a seam", CHECK.x.sale(0), 0);
        CHECK.due("without a seam, paid", CHECK.x.sale(1), 0);
        CHECK.mine("seam 3 by 3;order a grade 0 tubs 1 pays 5;order b grade 0 tubs 1 pays 5;"
            + "order c grade 0 tubs 2 pays 10;order d grade 9 tubs 1 pays 1;");
        saleIs("the fewest", 4, 10, 0, 2, 0, 0, 0, 0, 0, 0, 0, 0, 0);
        CHECK.mine("seam 3 by 3;order a grade 0 tubs 1 pays 5;order b grade 0 tubs 1 pays 6;"
            + "order c grade 0 tubs 1 pays 6;order d grade 0 tubs 2 pays 11;");
        saleIs("one more", 2, 6, 0, 1, 0, 0, 0, 0, 0, 0, 0, 0, 0);
        saleIs("two tubs", 6, 12, 0, 1, 0, 0, 0, 0, 0, 0, 0, 0, 1);
    }

    private static void odds() {
        CHECK.mine("seam 3 by 3;quake 40;miner a;dig a at 0 1;dig a at 0 2;");
        CHECK.due("all rows", CHECK.x.odds(-1, 77), 900);
        CHECK.due("the shaft's", CHECK.x.odds(0, 0), 900);
        CHECK.due("dug for sure", CHECK.x.odds(0, 1), 900);
        CHECK.due("not yet", CHECK.x.odds(0, 2), 0);
        CHECK.x.shifts(1);
        CHECK.due("closed by some", CHECK.x.odds(0, 1), 860);
        CHECK.due("cut off by some", CHECK.x.odds(0, 2), 860);
        CHECK.x.shifts(1);
        CHECK.due("dug again at once", CHECK.x.odds(0, 1), 900);
        CHECK.due("closed by some, the second", CHECK.x.odds(0, 2), 860);
        CHECK.due("none such", CHECK.x.odds(3, 0), -1);
        CHECK.due("no row", CHECK.x.odds(0, 3), -1);
        CHECK.due("column -2", CHECK.x.odds(-2, 0), -1);
        CHECK.at(999);
        CHECK.due("beyond shift 999", CHECK.x.odds(0, 0), -1);
        CHECK.due("beyond shift 999, all rows", CHECK.x.odds(-1, 0), -1);
        CHECK.fresh();
        CHECK.due("without a seam", CHECK.x.odds(-1, 0), -1);
    }

    private static final String REACHING = "seam 3 by 4;miner a;dig a at 0 1;dig a at 0 2;dig a at 0 3;";

    private static void felt(int rows, int... bytes) {
        CHECK.put(bytes);
        CHECK.due("feel()", CHECK.x.feel(), rows);
        CHECK.due("the tape went", CHECK.x.end(1), false);
    }

    private static void feel() {
        CHECK.fresh();
        felt(-1, 0, 0, 0, 255);
        CHECK.mine(REACHING);
        felt(-1);
        felt(-1, 0, 0, 0);
        felt(-1, 0, 0, 0, 255, 0);
        felt(-1, 31, 0, 0, 0);
        felt(-1, 0, 3, 0, 0);
        felt(-1, 0, 0, 4, 0);
        felt(-1, 0, 0, 0, 10);
        felt(-1, 0, 0, 0, 254);
        felt(-1, 0, 0, 0, 0, 0, 0, 0, 10);
        felt(-1, new int[68]);
        CHECK.due("refused", CHECK.x.status(5), 10);
        CHECK.due("nothing felt", CHECK.x.has(14), 0);
        felt(2, 30, 2, 3, 9, 0, 0, 0, 255);
        felt(-1, 9);
        CHECK.due("the latest stays", CHECK.x.has(14), 2);
        felt(16, new int[64]);
        CHECK.due("felt", CHECK.x.has(14), 16);
    }

    private static void reaches() {
        CHECK.fresh();
        CHECK.due("without a seam", CHECK.x.reaches(), -1);
        CHECK.mine(REACHING);
        CHECK.due("nothing felt", CHECK.x.reaches(), ALL_REACHES);
        felt(1, 2, 1, 2, 4);
        CHECK.due("2 or more", CHECK.x.reaches(), ALL_REACHES - 3);
        felt(1, 2, 1, 2, 5);
        CHECK.due("below 2", CHECK.x.reaches(), 3);
        felt(2, 2, 1, 2, 5, 1, 1, 1, 4);
        CHECK.due("1", CHECK.x.reaches(), 2);
        CHECK.putText("seam 9");
        CHECK.x.mine();
        CHECK.due("a refused mine", CHECK.x.reaches(), 2);
        felt(1, 1, 0, 1, 255);
        CHECK.due("open by all", CHECK.x.reaches(), ALL_REACHES);
        felt(1, 1, 0, 1, 5);
        CHECK.due("solid by none", CHECK.x.reaches(), 0);
        felt(1, 0, 0, 1, 5);
        CHECK.due("now", CHECK.x.reaches(), ALL_REACHES);
        CHECK.x.shifts(1);
        CHECK.due("from now on", CHECK.x.reaches(), 0);
        felt(1, 2, 2, 3, 5);
        CHECK.at(997);
        CHECK.due("felt stays", CHECK.x.reaches(), ALL_REACHES);
        CHECK.at(998);
        CHECK.due("beyond shift 999", CHECK.x.reaches(), 0);
        CHECK.at(999);
        felt(1, 0, 0, 0, 255);
        CHECK.due("now, at shift 999", CHECK.x.reaches(), ALL_REACHES);
        CHECK.putText(REACHING);
        CHECK.x.mine();
        CHECK.due("of this mine", CHECK.x.reaches(), ALL_REACHES);
    }

    private static void tellsIs(String what, int shifts, int cell, int left) {
        CHECK.due(what + ": shifts", CHECK.x.tells(0), shifts);
        CHECK.due(what + ": cell", CHECK.x.tells(1), cell);
        CHECK.due(what + ": left", CHECK.x.tells(2), left);
        CHECK.due(what + ": what 3", CHECK.x.tells(3), -1);
        CHECK.due(what + ": what -1", CHECK.x.tells(-1), -1);
    }

    private static void tells() {
        CHECK.fresh();
        tellsIs("without a seam", -1, -1, -1);
        CHECK.mine(REACHING);
        tellsIs("nothing felt", 3, 25, 18);
        felt(1, 2, 1, 2, 4);
        tellsIs("2 or more", 3, 25, 18);
        felt(1, 2, 1, 2, 5);
        tellsIs("below 2", 1, 9, 1);
        felt(2, 2, 1, 2, 5, 1, 1, 1, 4);
        tellsIs("one is left", 1, 0, 1);
        felt(1, 1, 0, 1, 5);
        tellsIs("none is left", -1, -1, -1);
        felt(1, 0, 0, 0, 255);
        CHECK.at(997);
        tellsIs("two shifts come: the plan's row 1 digs nothing, row 2 neither", 1, 0, 21);
        CHECK.at(999);
        tellsIs("no shift comes", -1, -1, -1);
        CHECK.putText(REACHING);
        CHECK.x.mine();
        CHECK.x.shifts(3);
        tellsIs("behind three shifts", 1, 25, 18);
        CHECK.x.undo();
        tellsIs("undone", 3, 25, 18);
        anotherMine();
    }

    /** What was found ahead is found anew for another mine. */
    private static void anotherMine() {
        CHECK.mine("seam 3 by 3;grade 1 0 9;miner a;dig a at 0 1;dig a at 1 0;");
        CHECK.x.change(1, 0);
        CHECK.x.tells(0);
        CHECK.putText(REACHING);
        CHECK.x.mine();
        changeIs("another mine", 1, -1, -1, -1);
        tellsIs("another mine", 3, 25, 18);
        CHECK.x.shifts(2);
        CHECK.due("a cell", CHECK.x.shade(1, 1), 1);
        CHECK.putText("seam 3 by 3;");
        CHECK.x.mine();
        shadeIs("another mine", 1, -1, -1, -1);
        CHECK.mine(MINE);
        int[] first = CHECK.image();
        CHECK.x.shifts(3);
        shadeIs("ahead of on()", 1, 0, 1, 30);
        CHECK.put(first);
        CHECK.x.on();
        shadeIs("behind on()", 1, -1, -1, -1);
    }
}
