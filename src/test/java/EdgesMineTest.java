/** The edges that the document names for cells, light and digging, and for what is asked: terms II, promises 6 to 12. */
public final class EdgesMineTest {
    private static final int[] OUTSIDE = {-1, -2, Integer.MIN_VALUE, Integer.MAX_VALUE};

    public static void main(String[] args) {
        Edges.run(EdgesMineTest.class);
    }

    /** The numbers that are no index of so many. */
    static int[] outside(int count) {
        return new int[] {-1, -2, Integer.MIN_VALUE, Integer.MAX_VALUE, count, count + 1};
    }

    // ---- cells and light

    @Says("next to it are those with a side in common")
    static void noCellIsNextAroundTheEdge(Check c) {
        for (int columns = 3; columns <= 7; columns++) {
            int last = columns - 1;
            c.mine("seam " + columns + " by 4;shaft " + last + ";miner a;dig a at 0 1;");
            c.due("the next row's first is not next to a row's last", c.x.cell(0, 1, 5), 0);
            c.due("it is not dug", c.x.shifts(1), 0);
            c.due("nor spoiled", c.x.cell(0, 1, 0), 5);
            c.due("the one below is", c.x.cell(last, 1, 0), 4);
            c.due("the one beside is", c.x.cell(last - 1, 0, 0), 4);
            c.due("the one at the corner is not", c.x.cell(last - 1, 1, 0), 5);
            c.due("two are", c.x.has(12), 5 * (4 * columns - 1) - 2);
            c.mine("seam " + columns + " by 4;miner a;dig a at " + last + " 1;");
            c.open(0, 1, 0, 2);
            c.due("a row's last is not next to the next row's first", c.x.cell(last, 1, 5), 0);
            c.due("nor that of the row ahead", c.x.cell(last, 0, 5), 0);
            c.due("it is not dug", c.x.shifts(1), 0);
        }
    }

    @Says("next to it are those with a side in common")
    static void theLastRowHasNoneBelow(Check c) {
        for (int rows = 3; rows <= 7; rows++) {
            c.mine("seam 3 by " + rows + ";shaft 1;reach 20;");
            int[] column = new int[2 * rows];
            for (int row = 0; row < rows; row++) {
                column[2 * row] = 1;
                column[2 * row + 1] = row;
            }
            c.open(column);
            c.due("far", c.x.cell(1, rows - 1, 4), rows - 1);
            c.x.shifts(1);
            c.due("both sides of each are spoiled", c.x.has(12), 8 * rows);
        }
    }

    @Says("FAR is a CELL from the shaft by the fewest steps from OPEN CELL to OPEN CELL next to it")
    static void fewestSteps(Check c) {
        c.mine("seam 7 by 7;reach 20;shaft 3;");
        int[] all = new int[98];
        for (int k = 0; k < 49; k++) {
            all[2 * k] = k % 7;
            all[2 * k + 1] = k / 7;
        }
        c.open(all);
        for (int k = 0; k < 49; k++) {
            c.due("far of " + k, c.x.cell(k % 7, k / 7, 4), Math.abs(k % 7 - 3) + k / 7);
        }
        c.due("all are open", c.x.has(6), 49);
        c.due("all are lit", c.x.has(7), 49);
        c.due("nothing is worth anything", c.x.has(12), 0);
        c.mine("seam 7 by 7;");
        EdgesRulesTest.openSnake(c);
        for (int far = 0; far < 23; far++) {
            c.due("far along one way", c.x.cell(EdgesRulesTest.snakeColumn(far), EdgesRulesTest.snakeRow(far), 4), far);
        }
        c.due("solid", c.x.cell(0, 1, 4), -1);
    }

    @Says("how FAR it is (NONE: SOLID, or by no way)")
    static void byNoWay(Check c) {
        c.mine("seam 3 by 4;");
        c.open(2, 2, 2, 3);
        c.due("by no way", c.x.cell(2, 2, 4), -1);
        c.due("not lit", c.x.cell(2, 2, 2), 0);
        c.due("open", c.x.cell(2, 2, 1), 1);
        c.due("beside it is safe all the same", c.x.cell(1, 2, 5), 1);
        c.due("solid", c.x.cell(1, 0, 4), -1);
        c.due("the shaft's", c.x.cell(0, 0, 4), 0);
    }

    @Says("none through one in which a curtain hangs (into it, but not out of it; the shaft's has none)")
    static void curtainsKeepLightOut(Check c) {
        c.mine("seam 3 by 4;reach 20;");
        c.open(0, 1, 0, 2, 0, 3);
        c.x.hang(0, 2, 1);
        c.due("ahead of it", c.x.cell(0, 1, 4), 1);
        c.due("into it", c.x.cell(0, 2, 4), 2);
        c.due("not lit", c.x.cell(0, 2, 2), 0);
        c.due("not out of it", c.x.cell(0, 3, 4), -1);
        c.due("dark behind it", c.x.cell(0, 3, 2), 0);
        c.x.shifts(1);
        c.due("spoiled ahead of it", c.x.cell(1, 1, 0), 4);
        c.due("not beside it", c.x.cell(1, 2, 0), 5);
        c.due("nor behind it", c.x.cell(1, 3, 0), 5);
        // another way around it
        c.open(1, 1, 1, 2, 1, 3);
        c.due("around it", c.x.cell(0, 3, 4), 5);
        c.due("into it", c.x.cell(0, 2, 4), 2);
    }

    @Says("LIT is an OPEN CELL that is no more than reach FAR from it, and in which no curtain hangs")
    static void litUpToReach(Check c) {
        for (int reach : new int[] {0, 1, 3, 19, 20}) {
            c.mine("seam 7 by 7;" + (reach == 3 ? "" : "reach " + reach + ";"));
            EdgesRulesTest.openSnake(c);
            for (int far = Math.max(0, reach - 1); far <= reach + 1; far++) {
                int column = EdgesRulesTest.snakeColumn(far);
                int row = EdgesRulesTest.snakeRow(far);
                c.due("lit at " + far + " by reach " + reach, c.x.cell(column, row, 2), far <= reach ? 1 : 0);
            }
            c.due("lit by reach " + reach, c.x.has(7), reach + 1);
        }
    }

    @Says("At first the CELL of the shaft's column in row 0 is OPEN, and stays so, all others are SOLID")
    static void theShaftStaysOpen(Check c) {
        c.mine("seam 3 by 3;quake 100;shaft 1;miner a;dig a at 1 0;");
        c.due("the shaft's", c.x.cell(1, 0, 1), 1);
        c.due("alone", c.x.has(6), 1);
        c.due("it is not dug", c.x.shifts(1), 0);
        int hits = 0;
        for (int seed = 0; hits < 3; seed++) {
            int[] draws = Draws.of(seed, 100, 3, 3);
            if (draws[1] == 1 && draws[2] == 0) {
                hits++;
                c.x.seed(seed);
                c.due("no quake makes it solid", c.x.chance(1), 0);
                c.due("it is open", c.x.cell(1, 0, 1), 1);
            }
        }
    }

    // ---- a shift

    @Says("the row of the PLAN of number SHIFT modulo its length (none without a PLAN)")
    static void thePlanGoesAround(Check c) {
        c.mine("seam 3 by 3;");
        c.due("without a plan", c.x.shifts(40), 0);
        c.due("the shift", c.x.has(5), 40);
        c.mine("seam 3 by 3;miner a;dig a at 0 1;falls shift<3;");
        c.x.shifts(1);
        c.x.heal(0);
        c.x.shifts(1);
        c.x.heal(0);
        c.x.shifts(1);
        c.x.heal(0);
        c.due("one row, each shift", c.x.shifts(1), 1);
        String rows = "dig a at 2 2;".repeat(15) + "dig a at 0 1;";
        for (int shift : new int[] {15, 31, 991}) {
            c.mine("seam 3 by 3;miner a;" + rows);
            c.at(shift - 1);
            c.due("not row 15 yet", c.x.shifts(1), 0);
            c.due("row 15 of 16", c.x.shifts(1), 1);
        }
        for (int shift : new int[] {0, 16, 992}) {
            c.mine("seam 3 by 3;miner a;dig a at 0 1;" + "dig a at 2 2;".repeat(15));
            c.at(shift);
            c.due("row 0 of 16", c.x.shifts(1), 1);
        }
        c.mine("seam 3 by 3;miner a;dig a at 2 2;dig a at 2 2;dig a at 0 1;");
        c.at(998);
        c.due("row 2 of 3 in the last shift", c.x.shifts(1), 1);
    }

    @Says("if its MINER is not HURT, and its CELL is SOLID and next to an OPEN one, he digs")
    static void whoDigs(Check c) {
        c.mine("seam 3 by 3;miner a;miner b;dig a at 0 1;");
        c.change(c.planByte(0) - 2, 1);
        c.due("he is hurt", c.x.shifts(1), 0);
        c.due("nothing is kept", c.x.has(13), 0);
        c.change(c.planByte(0) - 2, 0, c.planByte(0) - 1, 1);
        c.due("another one is hurt", c.x.shifts(1), 1);
        c.due("it is open", c.x.shifts(1), 0);
        c.x.send(0, 0, 2, 2);
        c.due("it is not next to an open one", c.x.shifts(1), 0);
        c.x.send(0, 0, 1, 2);
        c.due("nor at a corner", c.x.shifts(1), 0);
        c.x.send(0, 0, 0, 2);
        c.x.hang(0, 1, 1);
        c.due("next to a curtain", c.x.shifts(1), 1);
        c.mine("seam 3 by 3;miner a;dig a at 2 1;");
        c.open(2, 2);
        c.due("next to one that no way leads to", c.x.shifts(1), 1);
    }

    @Says("if the TEST of falls holds (without it: never), the CELL FALLS: it stays SOLID, its GRADE is 0, and he is HURT")
    static void itFalls(Check c) {
        c.mine("seam 3 by 3;reach 0;grade 0 2 9;miner a;miner b;dig a at 0 2;falls all;");
        c.open(0, 1);
        c.due("no tub", c.x.shifts(1), 0);
        c.due("solid", c.x.cell(0, 2, 1), 0);
        c.due("grade 0", c.x.cell(0, 2, 0), 0);
        c.due("he is hurt", c.x.hurt(0), 1);
        c.due("the other is not", c.x.hurt(1), 0);
        c.due("hurt, he digs no more", c.x.shifts(1), 0);
        c.due("one is kept", c.x.has(13), 1);
        c.due("it fell", c.x.kept(0, 3), -1);
        c.mine("seam 3 by 3;miner a;dig a at 0 1;falls not all;");
        c.due("never", c.x.shifts(1), 1);
        c.mine("seam 3 by 3;miner a;dig a at 0 1;grade 0 1 0;");
        c.due("without falls", c.x.shifts(1), 1);
    }

    @Says("THEN at once each SOLID CELL next to a LIT one")
    static void lightComesBehindTheDigging(Check c) {
        c.mine("seam 3 by 3;grade 0 1 4;grade 1 1 9;grade 0 2 9;miner a;dig a at 0 1;spoils far+1;");
        c.x.shifts(1);
        c.due("the tub is not spoiled", c.x.kept(0, 3), 4);
        c.due("beside what was dug just now", c.x.cell(1, 1, 0), 7);
        c.due("below it", c.x.cell(0, 2, 0), 7);
        c.mine("seam 3 by 3;grade 0 1 9;miner a;dig a at 0 1;falls all;");
        c.x.shifts(1);
        c.due("what fell lets no light in", c.x.cell(0, 2, 0), 5);
    }

    @Says("The SHIFT is one more (999 at most)")
    static void shift999AtMost(Check c) {
        c.mine("seam 3 by 3;");
        c.at(998);
        c.x.shifts(1);
        c.due("999", c.x.has(5), 999);
        c.due("none more", c.x.shifts(1), -1);
        c.due("nor by the seed", c.x.chance(1), -1);
        c.due("999 still", c.x.has(5), 999);
    }

    @Says("Of each GRADE there are 99 tubs at most (one more is lost)")
    static void tubs99AtMost(Check c) {
        for (int grade = 0; grade <= 9; grade++) {
            c.mine("seam 3 by 3;spoils 0;miner a;dig a at 0 1;dig a at 0 2;dig a at 1 0;gets " + grade + ";");
            c.change(c.tubsByte(grade), 98);
            c.due("the 99th", c.x.shifts(1), 1);
            c.due("is there", c.x.tubs(grade), 99);
            c.due("the 100th is got", c.x.shifts(1), 1);
            c.due("but lost", c.x.tubs(grade), 99);
            c.due("tubs", c.x.has(10), 99);
            c.due("worth", c.x.has(12), 99 * grade + 5 * 6);
            c.due("its cell is open", c.x.cell(0, 2, 1), 1);
            c.due("it is kept", c.x.kept(1, 3), grade);
            c.due("and another one", c.x.shifts(1), 1);
            c.due("99 still", c.x.tubs(grade), 99);
        }
    }

    // ---- what is asked

    @Says("16 the seed. NONE for others")
    static void hasNoOthers(Check c) {
        for (int what : outside(17)) {
            c.due("has(" + what + ") without a seam", c.x.has(what), -1);
        }
        c.mine("seam 3 by 3;");
        for (int what : outside(17)) {
            c.due("has(" + what + ")", c.x.has(what), -1);
        }
        for (int what = 0; what <= 16; what++) {
            c.due("has(" + what + ") is one", c.x.has(what) >= 0, true);
        }
    }

    @Says("6 OPEN CELLS, 7 LIT ones, 8 curtains, 9 MINERS who are HURT, 10 tubs, 11 the purse, 12 WORTH")
    static void hasAtTheMost(Check c) {
        c.mine("seam 3 by 3;miner a;miner b;miner c;miner d;miner e;miner f;");
        int[] changes = new int[2 * (8 + 6 + 10 + 3)];
        int k = 0;
        for (int cell = 1; cell < 9; cell++) {
            changes[k++] = 5 + cell;
            changes[k++] = 254;
        }
        for (int miner = 0; miner < 6; miner++) {
            changes[k++] = 14 + miner;
            changes[k++] = 1;
        }
        for (int grade = 0; grade < 10; grade++) {
            changes[k++] = 20 + grade;
            changes[k++] = 99;
        }
        int[] purse = {2, 1, 3, 134, 4, 159};
        System.arraycopy(purse, 0, changes, k, 6);
        c.change(changes);
        c.dueAll("has", c.has(), 3, 3, 6, 0, 0, 0, 9, 1, 8, 6, 990, 99999, 99 * 45, 0, 0, 0, 1);
    }

    @Says("Letter k (0 .. 5) of the NAME of a MINER (kind 0), an ORDER (1): 1 .. 26; 0 behind it; NONE when there is none such")
    static void letterNoneSuch(Check c) {
        c.mine("seam 3 by 3;miner a;miner mnopqr;order zy grade 1 tubs 1 pays 1;");
        for (int k = 0; k < 6; k++) {
            c.due("a, letter " + k, c.x.letter(0, 0, k), k == 0 ? 1 : 0);
            c.due("mnopqr, letter " + k, c.x.letter(0, 1, k), 13 + k);
            c.due("zy, letter " + k, c.x.letter(1, 0, k), k < 2 ? 26 - k : 0);
        }
        for (int k : outside(6)) {
            c.due("letter " + k, c.x.letter(0, 1, k), -1);
            c.due("letter " + k + " of an order", c.x.letter(1, 0, k), -1);
        }
        for (int miner : outside(2)) {
            c.due("miner " + miner, c.x.letter(0, miner, 0), -1);
        }
        for (int order : outside(1)) {
            c.due("order " + order, c.x.letter(1, order, 0), -1);
        }
        for (int kind : outside(2)) {
            c.due("kind " + kind, c.x.letter(kind, 0, 0), -1);
        }
    }

    @Says("5 whether it is SAFE. NONE when there is none such, or for others")
    static void cellNoneSuch(Check c) {
        for (int what = 0; what < 6; what++) {
            c.due("without a seam", c.x.cell(0, 0, what), -1);
        }
        c.mine("seam 4 by 6;");
        for (int what = 0; what < 6; what++) {
            for (int column : outside(4)) {
                c.due("column " + column, c.x.cell(column, 0, what), -1);
            }
            for (int row : outside(6)) {
                c.due("row " + row, c.x.cell(0, row, what), -1);
            }
            c.due("the last cell", c.x.cell(3, 5, what), what == 0 ? 5 : what == 4 ? -1 : 0);
        }
        for (int what : outside(6)) {
            c.due("what " + what, c.x.cell(1, 1, what), -1);
        }
    }

    @Says("Of a CELL: 0 its GRADE (NONE: OPEN)")
    static void gradeOfACell(Check c) {
        c.mine("seam 3 by 3;grade 1 0 9;grade 2 0 0;");
        c.due("open", c.x.cell(0, 0, 0), -1);
        c.due("9", c.x.cell(1, 0, 0), 9);
        c.due("0 is no NONE", c.x.cell(2, 0, 0), 0);
        c.change(c.cellByte(1, 1), 254, c.cellByte(2, 2), 255);
        c.due("open with a curtain", c.x.cell(1, 1, 0), -1);
        c.due("open by no way", c.x.cell(2, 2, 0), -1);
    }

    @Says("SAFE are SOLID CELLS next to an OPEN one, for which the TEST of falls does not hold now")
    static void safeCells(Check c) {
        c.mine("seam 3 by 3;grade 1 0 0;falls shift=1 and grade=5;spoils 0;");
        c.due("solid, grade 0", c.x.cell(1, 0, 5), 1);
        c.due("solid", c.x.cell(0, 1, 5), 1);
        c.due("open", c.x.cell(0, 0, 5), 0);
        c.due("not next to an open one", c.x.cell(1, 1, 5), 0);
        c.x.shifts(1);
        c.due("it would fall now", c.x.cell(0, 1, 5), 0);
        c.due("the other would not", c.x.cell(1, 0, 5), 1);
        c.x.shifts(1);
        c.due("no more", c.x.cell(0, 1, 5), 1);
        c.mine("seam 3 by 3;");
        c.change(c.cellByte(1, 1), 254);
        c.due("next to a curtain", c.x.cell(2, 1, 5), 1);
        c.due("the curtain's", c.x.cell(1, 1, 5), 0);
    }

    @Says("Whether a MINER is HURT; NONE when there is none such")
    static void hurtNoneSuch(Check c) {
        c.due("without a seam", c.x.hurt(0), -1);
        c.mine("seam 3 by 3;miner a;miner b;dig b at 0 1;falls all;");
        c.x.shifts(1);
        c.due("the first", c.x.hurt(0), 0);
        c.due("the last", c.x.hurt(1), 1);
        for (int miner : outside(2)) {
            c.due("miner " + miner, c.x.hurt(miner), -1);
        }
    }

    @Says("Of a row of the PLAN: 0 MINER, 1 column, 2 row. NONE when there is none such, or for others")
    static void planNoneSuch(Check c) {
        c.due("without a seam", c.x.plan(0, 0), -1);
        c.mine("seam 7 by 7;miner a;miner b;dig b at 6 5;dig a at 0 6;");
        int[][] rows = {{1, 6, 5}, {0, 0, 6}};
        for (int what = 0; what < 3; what++) {
            c.due("row 0, what " + what, c.x.plan(0, what), rows[0][what]);
            c.due("row 1, what " + what, c.x.plan(1, what), rows[1][what]);
            for (int k : outside(2)) {
                c.due("row " + k, c.x.plan(k, what), -1);
            }
        }
        for (int what : outside(3)) {
            c.due("what " + what, c.x.plan(1, what), -1);
        }
    }

    @Says("4 whether it could be sold now. NONE when there is none such, or for others")
    static void orderNoneSuch(Check c) {
        c.due("without a seam", c.x.order(0, 0), -1);
        c.mine("seam 3 by 3;order a grade 9 tubs 1 pays 999;order b grade 0 tubs 9 pays 0;");
        for (int what = 0; what < 5; what++) {
            for (int order : outside(2)) {
                c.due("order " + order, c.x.order(order, what), -1);
            }
        }
        for (int what : outside(5)) {
            c.due("what " + what, c.x.order(1, what), -1);
        }
    }

    @Says("4 whether it could be sold now")
    static void justEnoughTubs(Check c) {
        c.mine("seam 3 by 3;order a grade 4 tubs 9 pays 1;");
        c.change(c.tubsByte(4), 8, c.tubsByte(3), 99);
        c.due("one is lacking, lower ones are no help", c.x.order(0, 4), 0);
        c.change(c.tubsByte(4), 9);
        c.due("just enough", c.x.order(0, 4), 1);
        c.change(c.tubsByte(4), 0, c.tubsByte(5), 4, c.tubsByte(9), 5);
        c.due("just enough of higher ones", c.x.order(0, 4), 1);
        c.change(c.tubsByte(9), 4);
        c.due("one is lacking", c.x.order(0, 4), 0);
        c.change(c.tubsByte(9), 99, c.orderByte(0), 1);
        c.due("sold already", c.x.order(0, 4), 0);
        c.due("it is sold", c.x.order(0, 3), 1);
    }

    @Says("How many tubs of a GRADE (0 .. 9) there are; NONE for others")
    static void tubsNoneSuch(Check c) {
        for (int grade = 0; grade <= 9; grade++) {
            c.due("without a seam", c.x.tubs(grade), 0);
        }
        for (int grade : outside(10)) {
            c.due("without a seam, grade " + grade, c.x.tubs(grade), -1);
        }
        c.mine("seam 3 by 3;");
        c.change(c.tubsByte(0), 98, c.tubsByte(9), 99);
        c.due("grade 0", c.x.tubs(0), 98);
        c.due("grade 9", c.x.tubs(9), 99);
        for (int grade : OUTSIDE) {
            c.due("grade " + grade, c.x.tubs(grade), -1);
        }
        c.due("grade 10", c.x.tubs(10), -1);
    }
}
