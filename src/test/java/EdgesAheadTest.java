/** The edges that the document names for what comes ahead: terms III, promises 13 to 22. */
public final class EdgesAheadTest {
    private static final int ALL_REACHES = (1 << 21) - 1;
    private static final String SEAM = "seam 3 by 3;";
    private static final String DIGS = "seam 3 by 3;miner a;dig a at 0 1;dig a at 0 2;dig a at 1 1;";

    public static void main(String[] args) {
        Edges.run(EdgesAheadTest.class);
    }

    // ---- later, opens, worth

    @Says("The GRADE of a CELL behind n SHIFTS AHEAD (0 .. 40; NONE: OPEN); NONE when there is none such, or n can't be")
    static void laterFrom0To40(Check c) {
        c.due("without a seam", c.x.later(0, 0, 0), -1);
        c.mine(SEAM + "spoils if(shift=39,2,0);");
        c.due("behind none", c.x.later(1, 0, 0), 5);
        c.due("behind 39", c.x.later(1, 0, 39), 5);
        c.due("behind 40", c.x.later(1, 0, 40), 3);
        for (int n : EdgesMineTest.outside(41)) {
            c.due("n " + n, c.x.later(1, 0, n), -1);
        }
        for (int k : EdgesMineTest.outside(3)) {
            c.due("column " + k, c.x.later(k, 0, 0), -1);
            c.due("row " + k, c.x.later(0, k, 0), -1);
        }
        c.mine(DIGS);
        c.due("solid still", c.x.later(0, 1, 0), 5);
        c.due("open", c.x.later(0, 1, 1), -1);
        c.due("the shaft's", c.x.later(0, 0, 0), -1);
        c.due("nothing went by", c.x.has(5), 0);
    }

    @Says("AHEAD are SHIFTS as they come from now on without DRAWS (40 at most, not beyond SHIFT 999)")
    static void notBeyondShift999(Check c) {
        c.mine(SEAM + "quake 100;spoils if(shift=998,2,0);");
        c.at(959);
        c.due("later, 40 to 999", c.x.later(1, 0, 40), 3);
        c.due("worth, 40 to 999", c.x.worth(40), 36);
        c.at(960);
        c.due("later, 39 to 999", c.x.later(1, 0, 39), 3);
        c.due("later, 40 to 1000", c.x.later(1, 0, 40), -1);
        c.due("worth, 39 to 999", c.x.worth(39), 36);
        c.due("worth, 40 to 1000", c.x.worth(40), -1);
        c.at(999);
        c.due("later, none", c.x.later(1, 0, 0), 5);
        c.due("later, one", c.x.later(1, 0, 1), -1);
        c.due("worth, none", c.x.worth(0), 40);
        c.due("worth, one", c.x.worth(1), -1);
        c.due("without draws", c.x.has(16), 1);
    }

    @Says("Behind how many SHIFTS AHEAD (0: now; 40 at most) a CELL is OPEN; NONE when it is not, or there is none such")
    static void opensWithin40(Check c) {
        c.due("without a seam", c.x.opens(0, 0), -1);
        String rows = "miner a;" + "dig a at 2 2;".repeat(13) + "dig a at 0 1;";
        c.mine(SEAM + rows);
        c.due("now", c.x.opens(0, 0), 0);
        c.due("behind 14", c.x.opens(0, 1), 14);
        c.due("never", c.x.opens(2, 2), -1);
        for (int k : EdgesMineTest.outside(3)) {
            c.due("column " + k, c.x.opens(k, 0), -1);
            c.due("row " + k, c.x.opens(0, k), -1);
        }
        c.change(c.cellByte(1, 0), 254);
        c.due("with a curtain", c.x.opens(1, 0), 0);
        // each turn of the 14 rows opens one cell, one row earlier than the turn ahead of it
        String threeRounds = "miner a;" + "dig a at 0 6;".repeat(11) + "dig a at 0 3;dig a at 0 2;dig a at 0 1;";
        c.mine("seam 3 by 7;" + threeRounds);
        c.due("the first behind 14", c.x.opens(0, 1), 14);
        c.due("the second behind 27", c.x.opens(0, 2), 27);
        c.due("the third behind 40", c.x.opens(0, 3), 40);
        c.at(13);
        c.due("now behind 27", c.x.opens(0, 3), 27);
        c.mine("seam 3 by 7;" + threeRounds.replace("dig a at 0 6;".repeat(11), "dig a at 0 6;".repeat(12)));
        c.due("behind 43", c.x.opens(0, 3), -1);
        c.x.shifts(2);
        c.due("behind 41", c.x.opens(0, 3), -1);
        c.x.shifts(1);
        c.due("behind 40", c.x.opens(0, 3), 40);
    }

    @Says("not beyond SHIFT 999")
    static void opensNotBeyondShift999(Check c) {
        // shift 998 is of row 0 of two
        c.mine(SEAM + "miner a;dig a at 0 1;dig a at 2 2;");
        c.at(997);
        c.due("behind two, at 999", c.x.opens(0, 1), 2);
        c.at(998);
        c.due("behind one, at 999", c.x.opens(0, 1), 1);
        c.at(999);
        c.due("none comes", c.x.opens(0, 1), -1);
        c.due("now", c.x.opens(0, 0), 0);
        c.mine(SEAM + "miner a;dig a at 2 2;dig a at 0 1;");
        c.at(998);
        c.due("only behind 1000", c.x.opens(0, 1), -1);
    }

    @Says("WORTH behind n SHIFTS AHEAD (0 .. 40); NONE when n can't be, or without a seam")
    static void worthFrom0To40(Check c) {
        c.due("without a seam", c.x.worth(0), -1);
        c.mine(SEAM + "spoils if(shift=39,2,0);");
        c.due("behind none", c.x.worth(0), 40);
        c.due("behind 39", c.x.worth(39), 40);
        c.due("behind 40", c.x.worth(40), 36);
        for (int n : EdgesMineTest.outside(41)) {
            c.due("n " + n, c.x.worth(n), -1);
        }
    }

    @Says("WORTH are all GRADES of SOLID CELLS and of tubs together")
    static void worthOfCellsAndTubs(Check c) {
        c.mine(SEAM + "spoils 0;grade 2 2 9;miner a;dig a at 0 1;gets 9;");
        c.due("cells", c.x.worth(0), 44);
        c.due("a tub for a cell", c.x.worth(1), 48);
        c.change(c.tubsByte(9), 99, c.tubsByte(1), 3);
        c.due("with tubs", c.x.worth(0), 44 + 891 + 3);
        c.due("one more of 99 is lost", c.x.worth(1), 39 + 891 + 3);
    }

    // ---- shade, change

    private static void shade(Check c, String what, int n, int... want) {
        c.dueAll("shade, " + what, new int[] {c.x.shade(n, 0), c.x.shade(n, 1), c.x.shade(n, 2)}, want);
    }

    private static void change(Check c, String what, int n, int... want) {
        c.dueAll("change, " + what, new int[] {c.x.change(n, 0), c.x.change(n, 1), c.x.change(n, 2)}, want);
    }

    @Says("To SHADE, n SHIFTS (1 .. 20): column (what 0), row (1), WORTH then (2)")
    static void shadeFrom1To20(Check c) {
        shade(c, "without a seam", 1, -1, -1, -1);
        // (0, 1) lights (0, 2) and (1, 1), in the shift 19 alone
        c.mine(SEAM + "spoils if(shift=19,1,0);");
        c.open(0, 1);
        shade(c, "1", 1, 0, 1, 35);
        shade(c, "19", 19, 0, 1, 35);
        shade(c, "20", 20, 0, 1, 34);
        for (int n : new int[] {0, -1, 21, 22, Integer.MAX_VALUE, Integer.MIN_VALUE}) {
            shade(c, "n " + n, n, -1, -1, -1);
        }
        for (int what : EdgesMineTest.outside(3)) {
            c.due("what " + what, c.x.shade(1, what), -1);
        }
    }

    @Says("To SHADE is the CELL in which a curtain, hung now, lets most WORTH be left behind n SHIFTS (OPEN, without one, not the shaft's)")
    static void cellsToShade(Check c) {
        c.mine(SEAM);
        shade(c, "the shaft's is none", 1, -1, -1, -1);
        c.open(1, 0);
        shade(c, "the one that is open", 1, 1, 0, 34);
        c.x.hang(1, 0, 1);
        shade(c, "it has one already", 1, -1, -1, -1);
        c.open(0, 1, 0, 2);
        c.change(c.cellByte(1, 0), 254);
        // in (0, 1) it keeps light from (1, 1), (1, 2); in (0, 2) from (1, 2) alone
        shade(c, "most is left", 1, 0, 1, 25);
        c.due("nothing is hung", c.x.has(8), 1);
        // the curtain stays for all n shifts, and what is dug there then is dark
        c.mine(SEAM + "miner a;dig a at 0 2;");
        c.open(0, 1);
        shade(c, "dug behind it", 2, 0, 1, 33);
    }

    @Says("lets most WORTH be left behind n SHIFTS")
    static void nothingIsLeft(Check c) {
        c.mine(SEAM);
        int[] changes = new int[16];
        for (int k = 1; k < 9; k++) {
            changes[2 * k - 2] = 5 + k;
            changes[2 * k - 1] = k % 4 == 3 ? 255 : 0;
        }
        c.change(changes);
        shade(c, "a worth of 0 is most", 20, 0, 1, 0);
    }

    @Says("of like ones the first, row by row")
    static void theFirstToShade(Check c) {
        c.mine("seam 3 by 4;reach 0;");
        c.open(2, 1, 1, 2, 0, 3, 2, 3);
        shade(c, "all alike", 1, 2, 1, 33);
        c.change(c.cellByte(2, 1), 5);
        shade(c, "the next row", 1, 1, 2, 38);
        c.open(2, 2);
        shade(c, "the lower column", 1, 1, 2, 33);
    }

    @Says("NONE without a CELL, when n can't be, or for others")
    static void shadeNotBeyond999(Check c) {
        c.mine(SEAM);
        c.open(0, 1);
        c.at(979);
        shade(c, "20 to 999", 20, 0, 1, 30);
        c.at(980);
        shade(c, "19 to 999", 19, 0, 1, 30);
        shade(c, "20 to 1000", 20, -1, -1, -1);
        c.at(998);
        shade(c, "1 to 999", 1, 0, 1, 34);
        c.at(999);
        shade(c, "1 to 1000", 1, -1, -1, -1);
    }

    @Says("To CHANGE, n SHIFTS (1 .. 20): the row of the less number (what 0), the other (1), the GRADES of all tubs then (2)")
    static void changeFrom1To20(Check c) {
        change(c, "without a seam", 1, -1, -1, -1);
        // row 0 opens the way; row 15 comes too late for most n
        c.mine("seam 3 by 3;spoils 0;grade 1 0 9;miner a;" + "dig a at 0 1;".repeat(15) + "dig a at 1 0;");
        change(c, "1", 1, 0, 15, 9);
        change(c, "2", 2, 0, 15, 14);
        change(c, "15", 15, 0, 15, 14);
        change(c, "16, the same as without", 16, -1, -1, -1);
        change(c, "20, the same as without", 20, -1, -1, -1);
        // row 9 opens the way, row 4 digs behind it in the shift 20; only what the shift 19 digs has a grade
        c.mine("seam 3 by 3;spoils 0;miner a;" + "dig a at 2 2;".repeat(4) + "dig a at 0 2;" + "dig a at 2 2;".repeat(4)
            + "dig a at 0 1;" + "dig a at 2 2;".repeat(6) + "gets if(shift=19,7,0);");
        change(c, "19", 19, -1, -1, -1);
        change(c, "20", 20, 3, 4, 7);
        for (int n : new int[] {0, -1, 21, 22, Integer.MAX_VALUE, Integer.MIN_VALUE}) {
            change(c, "n " + n, n, -1, -1, -1);
        }
        for (int what : EdgesMineTest.outside(3)) {
            c.due("what " + what, c.x.change(20, what), -1);
        }
    }

    @Says("if that is more than without; of like ones the first pair")
    static void moreThanWithout(Check c) {
        c.mine(SEAM);
        change(c, "without a plan", 1, -1, -1, -1);
        c.mine(SEAM + "miner a;dig a at 0 1;");
        change(c, "one row", 1, -1, -1, -1);
        c.mine(SEAM + "miner a;dig a at 0 1;dig a at 1 0;");
        change(c, "as much as without", 1, -1, -1, -1);
        c.mine(SEAM + "miner a;dig a at 0 1;dig a at 1 0;grade 1 0 6;");
        change(c, "one more than without", 1, 0, 1, 6);
        c.mine(SEAM + "miner a;dig a at 2 2;dig a at 2 2;dig a at 0 1;dig a at 1 0;");
        change(c, "of like ones the first pair", 1, 0, 2, 5);
        change(c, "of like ones the first pair in two shifts", 2, 0, 2, 5);
    }

    @Says("two rows of the PLAN which, taken for one another now")
    static void minersChangeWithTheirCells(Check c) {
        // b is hurt: only where a goes along with the cell is anything got
        c.mine(SEAM + "spoils 0;miner a;miner b;dig b at 0 1;dig a at 1 0;");
        c.change(c.planByte(0) - 1, 1);
        change(c, "a digs first", 1, 0, 1, 5);
        change(c, "a digs once", 2, -1, -1, -1);
        c.dueAll("nothing is changed", new int[] {c.x.plan(0, 0), c.x.plan(0, 1), c.x.plan(1, 0), c.x.plan(1, 1)}, 1, 0, 0, 1);
    }

    @Says("NONE each without a pair, when n can't be, or for others")
    static void changeNotBeyond999(Check c) {
        c.mine(SEAM + "spoils 0;grade 1 0 9;miner a;" + "dig a at 0 1;".repeat(15) + "dig a at 1 0;");
        c.at(996);
        change(c, "3 to 999, from row 4 on", 3, 4, 15, 14);
        change(c, "4 to 1000", 4, -1, -1, -1);
        c.at(998);
        change(c, "1 to 999, row 6", 1, 6, 15, 9);
        c.at(999);
        change(c, "1 to 1000", 1, -1, -1, -1);
    }

    // ---- sale, odds

    private static void sale(Check c, String what, int set, int paid) {
        c.due("sale, " + what, c.x.sale(0), set);
        c.due("paid, " + what, c.x.sale(1), paid);
    }

    @Says("A SALE: the ORDERS, as bits (what 0), what is paid (1). NONE for others")
    static void saleAtItsEdges(Check c) {
        sale(c, "without a seam", 0, 0);
        for (int what : EdgesMineTest.outside(2)) {
            c.due("what " + what + " without a seam", c.x.sale(what), -1);
        }
        c.mine(SEAM);
        sale(c, "without an order", 0, 0);
        String five = "";
        for (char name = 'a'; name < 'f'; name++) {
            five += "order " + name + " grade " + (name - 'a') + " tubs 9 pays 999;";
        }
        c.mine(SEAM + five);
        sale(c, "without tubs", 0, 0);
        c.change(c.tubsByte(9), 45);
        sale(c, "all five, just enough", 31, 4995);
        c.change(c.tubsByte(9), 44);
        sale(c, "one is lacking: the least bits of four", 15, 3996);
        c.change(c.tubsByte(9), 9);
        sale(c, "the least bits of one", 1, 999);
        c.change(c.tubsByte(9), 8);
        sale(c, "none", 0, 0);
        c.change(c.tubsByte(9), 99, c.orderByte(0), 1, c.orderByte(4), 1);
        sale(c, "not sold yet", 14, 2997);
        for (int what : EdgesMineTest.outside(2)) {
            c.due("what " + what, c.x.sale(what), -1);
        }
    }

    @Says("for which there are tubs enough now, each tub for one of them alone")
    static void eachTubForOne(Check c) {
        c.mine(SEAM + "order a grade 5 tubs 2 pays 10;order b grade 3 tubs 2 pays 10;order c grade 0 tubs 1 pays 1;");
        c.change(c.tubsByte(5), 2, c.tubsByte(4), 2);
        sale(c, "two and two", 3, 20);
        c.change(c.tubsByte(5), 1, c.tubsByte(4), 3);
        sale(c, "one and three: c takes what is left", 6, 11);
        c.change(c.tubsByte(5), 3, c.tubsByte(4), 0);
        sale(c, "three", 5, 11);
        c.change(c.tubsByte(5), 2, c.tubsByte(4), 2, c.tubsByte(0), 1);
        sale(c, "five", 7, 21);
    }

    @Says("for which most is paid; of like ones the fewest, then the least bits")
    static void ofLikeSales(Check c) {
        c.mine(SEAM + "order a grade 0 tubs 1 pays 5;order b grade 0 tubs 1 pays 5;order c grade 0 tubs 1 pays 10;"
            + "order d grade 0 tubs 1 pays 0;");
        c.change(c.tubsByte(0), 1);
        sale(c, "one", 4, 10);
        c.change(c.tubsByte(0), 2);
        sale(c, "the least bits", 5, 15);
        c.change(c.tubsByte(0), 4);
        sale(c, "the fewest, without what pays nothing", 7, 20);
        c.change(c.orderByte(0), 1, c.orderByte(1), 1, c.orderByte(2), 1);
        sale(c, "nothing is paid, none is fewest", 0, 0);
        c.mine(SEAM + "order a grade 0 tubs 1 pays 5;order b grade 0 tubs 1 pays 5;order c grade 0 tubs 2 pays 10;");
        c.change(c.tubsByte(0), 2);
        sale(c, "one for two", 4, 10);
    }

    @Says("ODDS of a CELL; all rows for the column NONE. NONE when there is none such, without a seam, or beyond SHIFT 999")
    static void oddsAtTheirEdges(Check c) {
        c.due("without a seam", c.x.odds(0, 0), -1);
        c.due("all rows without a seam", c.x.odds(-1, 0), -1);
        c.mine("seam 4 by 7;quake 50;");
        for (int row : new int[] {0, 6, 7, -1, Integer.MAX_VALUE, Integer.MIN_VALUE}) {
            c.due("all rows", c.x.odds(-1, row), 2800);
        }
        for (int column : new int[] {4, 5, -2, Integer.MAX_VALUE, Integer.MIN_VALUE}) {
            c.due("column " + column, c.x.odds(column, 0), -1);
        }
        for (int row : EdgesMineTest.outside(7)) {
            c.due("row " + row, c.x.odds(0, row), -1);
        }
        c.at(998);
        c.due("to 999", c.x.odds(0, 0), 2800);
        c.due("all rows to 999", c.x.odds(-1, 0), 2800);
        c.at(999);
        c.due("beyond 999", c.x.odds(0, 0), -1);
        c.due("all rows beyond 999", c.x.odds(-1, 0), -1);
    }

    @Says("by how many of all rows of a number below 100, a column, a row it is OPEN behind the next SHIFT by the seed")
    static void oddsByQuake(Check c) {
        for (int quake : new int[] {0, 1, 99, 100}) {
            c.mine("seam 3 by 4;quake " + quake + ";miner a;dig a at 2 0;dig a at 0 1;");
            c.open(0, 1, 1, 0);
            c.due("the shaft's, quake " + quake, c.x.odds(0, 0), 1200);
            c.due("an open one", c.x.odds(0, 1), 1200 - quake);
            c.due("what is dug, unless its way is closed", c.x.odds(2, 0), 1200 - quake);
            c.due("a solid one", c.x.odds(2, 2), 0);
            c.x.hang(0, 1, 1);
            c.due("one with a curtain", c.x.odds(0, 1), 1200 - quake);
            c.x.shifts(1);
            c.due("what is dug again at once", c.x.odds(0, 1), 1200);
            c.due("an open one still", c.x.odds(1, 0), 1200 - quake);
            c.due("the seed stays", c.x.has(16), 1);
        }
    }

    // ---- how far the light reaches

    private static int feel(Check c, int... bytes) {
        c.put(bytes);
        return c.x.feel();
    }

    private static int[] rows(int count, int... row) {
        int[] all = new int[4 * count];
        for (int k = 0; k < all.length; k++) {
            all[k] = row[k % 4];
        }
        return all;
    }

    @Says("1 to 16 rows of four bytes: how many rows; NONE, refused (5), when it is none such")
    static void feel1To16Rows(Check c) {
        c.mine(SEAM);
        for (int count = 1; count <= 16; count++) {
            c.due("rows", feel(c, rows(count, 0, 0, 0, 255)), count);
            c.due("felt", c.x.has(14), count);
        }
        c.due("none", feel(c), -1);
        c.due("17 rows", feel(c, rows(17, 0, 0, 0, 255)), -1);
        c.due("three bytes", feel(c, 0, 0, 0), -1);
        c.due("five bytes", feel(c, 0, 0, 0, 255, 0), -1);
        c.due("63 bytes", feel(c, java.util.Arrays.copyOf(rows(16, 0, 0, 0, 255), 63)), -1);
        c.due("65 bytes", feel(c, java.util.Arrays.copyOf(rows(16, 0, 0, 0, 255), 65)), -1);
        c.due("1600 bytes", feel(c, rows(400, 0, 0, 0, 255)), -1);
        c.due("refused", c.x.status(5), 7);
        c.due("the latest stays", c.x.has(14), 16);
        c.due("the tape went", c.x.end(1), false);
    }

    @Says("The tape (it goes, refused or not) tells FELT")
    static void bytesThatWereCut(Check c) {
        c.mine(SEAM);
        c.x.feed(0x000000ff, -1, -1, -1, -1);
        c.x.end(4);
        c.due("one row, whatever stood behind it", c.x.feel(), 1);
        c.due("all are left", c.x.reaches(), ALL_REACHES);
        c.x.feed(0x000000ff, 0x01000000, 0, 0, 0);
        c.x.end(4);
        c.due("one row alone", c.x.feel(), 1);
        c.due("all are left", c.x.reaches(), ALL_REACHES);
    }

    @Says("FELT are rows of SHIFTS AHEAD (0 .. 30), column, row, the GRADE of a CELL behind these (255: it is OPEN)")
    static void feltRowsWithin(Check c) {
        c.due("without a seam", feel(c, 0, 0, 0, 255), -1);
        c.mine("seam 4 by 6;");
        c.due("the least", feel(c, 0, 0, 0, 0), 1);
        c.due("the most", feel(c, 30, 3, 5, 9), 1);
        c.due("open", feel(c, 30, 3, 5, 255), 1);
        int[][] wrong = {{31, 0, 0, 0}, {255, 0, 0, 0}, {0, 4, 0, 0}, {0, 255, 0, 0}, {0, 0, 6, 0}, {0, 0, 255, 0},
            {0, 0, 0, 10}, {0, 0, 0, 254}, {0, 0, 0, 128}};
        for (int[] row : wrong) {
            c.due("a wrong row", feel(c, row), -1);
            c.due("ahead of a good one", feel(c, row[0], row[1], row[2], row[3], 0, 0, 0, 255), -1);
            c.due("behind a good one", feel(c, 0, 0, 0, 255, row[0], row[1], row[2], row[3]), -1);
        }
        c.due("refused", c.x.status(5), 27);
    }

    @Says("REACHES by FELT (of the latest feel() of this MINE that was not refused; all, if there was none")
    static void reachesByTheLatest(Check c) {
        c.due("without a seam", c.x.reaches(), -1);
        c.mine(SEAM);
        c.open(0, 1);
        c.due("nothing felt", c.x.reaches(), ALL_REACHES);
        feel(c, 1, 1, 1, 5);
        c.due("dark", c.x.reaches(), 1);
        feel(c, 31, 1, 1, 4);
        c.due("a refused one is none", c.x.reaches(), 1);
        feel(c, 1, 1, 1, 4);
        c.due("the latest", c.x.reaches(), ALL_REACHES - 1);
        c.putText("seam 2");
        c.x.mine();
        c.due("a refused mine() is none", c.x.reaches(), ALL_REACHES - 1);
        c.putText(SEAM);
        c.x.mine();
        c.due("of this mine", c.x.reaches(), ALL_REACHES);
    }

    @Says("REACHES (0 .. 20) are numbers that the reach can be, so that all is so")
    static void reachesFrom0To20(Check c) {
        c.mine("seam 7 by 7;reach 7;");
        EdgesRulesTest.openSnake(c);
        c.due("nothing felt", c.x.reaches(), ALL_REACHES);
        // (4, 5) lies beside 20 alone, (5, 5) beside 21, (0, 1) beside the shaft
        feel(c, 1, 4, 5, 4);
        c.due("20 alone", c.x.reaches(), 1 << 20);
        feel(c, 1, 4, 5, 5);
        c.due("all but 20", c.x.reaches(), ALL_REACHES - (1 << 20));
        feel(c, 1, 3, 5, 4, 1, 4, 5, 5);
        c.due("19 alone", c.x.reaches(), 1 << 19);
        feel(c, 1, 5, 5, 4);
        c.due("21 is none", c.x.reaches(), 0);
        feel(c, 1, 5, 5, 5);
        c.due("21 is none, so all", c.x.reaches(), ALL_REACHES);
        feel(c, 1, 2, 1, 5);
        c.due("0 and 1", c.x.reaches(), 3);
        feel(c, 1, 1, 1, 5);
        c.due("0 alone", c.x.reaches(), 1);
        feel(c, 1, 1, 1, 5, 1, 2, 1, 4);
        c.due("none: all must be so", c.x.reaches(), 0);
    }

    @Says("SHIFTS beyond 999 are by none")
    static void feltBeyond999(Check c) {
        c.mine(SEAM);
        c.at(969);
        feel(c, 30, 2, 2, 5);
        c.due("30 to 999", c.x.reaches(), ALL_REACHES);
        c.at(970);
        c.due("30 to 1000", c.x.reaches(), 0);
        feel(c, 0, 0, 0, 255, 30, 2, 2, 5);
        c.due("one row of two is beyond", c.x.reaches(), 0);
        feel(c, 29, 2, 2, 5);
        c.due("29 to 999", c.x.reaches(), ALL_REACHES);
        c.at(999);
        c.due("29 to 1028", c.x.reaches(), 0);
        feel(c, 1, 0, 0, 255);
        c.due("1 to 1000", c.x.reaches(), 0);
        feel(c, 0, 0, 0, 255);
        c.due("none", c.x.reaches(), ALL_REACHES);
    }

    @Says("FELT are rows of SHIFTS AHEAD")
    static void feltFrom0To30Ahead(Check c) {
        c.mine(SEAM + "spoils if(shift=29,1,0);");
        c.open(0, 1);
        feel(c, 30, 1, 1, 4);
        c.due("behind 30", c.x.reaches(), ALL_REACHES - 1);
        feel(c, 29, 1, 1, 4);
        c.due("behind 29", c.x.reaches(), 0);
        feel(c, 0, 1, 1, 5);
        c.due("now", c.x.reaches(), ALL_REACHES);
        feel(c, 30, 0, 0, 255, 0, 0, 1, 255);
        c.due("open", c.x.reaches(), ALL_REACHES);
        feel(c, 0, 0, 0, 0);
        c.due("open is no grade 0", c.x.reaches(), 0);
    }

    private static void tells(Check c, String what, int... want) {
        c.dueAll("tells, " + what, new int[] {c.x.tells(0), c.x.tells(1), c.x.tells(2)}, want);
    }

    @Says("TELLING is the number of SHIFTS AHEAD (1 .. 30)")
    static void tellingFrom1To30(Check c) {
        c.mine(SEAM);
        c.open(0, 1);
        tells(c, "behind 1", 1, 9, 20);
        c.mine(SEAM + "spoils if(shift=29,1,0);");
        c.open(0, 1);
        tells(c, "behind 30", 30, 9, 20);
        c.mine(SEAM + "spoils if(shift=30,1,0);");
        c.open(0, 1);
        tells(c, "behind 31 is too late: all are like", 1, 0, 21);
        c.x.shifts(1);
        tells(c, "behind 30 now", 30, 9, 20);
        c.at(998);
        tells(c, "one comes", 1, 0, 21);
        c.at(999);
        tells(c, "none comes", -1, -1, -1);
    }

    @Says("of like ones the first, SHIFT by SHIFT, row by row")
    static void theFirstTelling(Check c) {
        // reach 1 is told apart behind one shift by (1, 1), (2, 0) and (0, 2) alike
        c.mine("seam 3 by 3;");
        c.open(1, 0, 0, 1);
        tells(c, "row by row", 1, 2, 20);
        c.mine("seam 3 by 3;");
        c.open(0, 1);
        tells(c, "column by column", 1, 9, 20);
        c.mine("seam 3 by 3;spoils if(depth=2,if(shift=0,1,0),if(shift=1,1,0));");
        c.open(0, 1);
        tells(c, "shift by shift", 1, 16, 20);
    }

    @Says("by whose GRADE, whatever it is, or OPEN, the most of these left are fewest")
    static void theMostLeft(Check c) {
        c.mine("seam 7 by 7;spoils 0;");
        EdgesRulesTest.openSnake(c);
        tells(c, "nothing tells", 1, 0, 21);
        c.mine("seam 7 by 7;");
        EdgesRulesTest.openSnake(c);
        // what lies beside a cell tells whether the reach is as FAR or more: (3, 3) beside 11 as well as (4, 3) beside 10
        tells(c, "half of them", 1, 27, 11);
        feel(c, 1, 4, 5, 4);
        tells(c, "one is left", 1, 0, 1);
        // a falling cell hurts, an open one is seen: dug where it is lit alone
        c.mine("seam 3 by 4;miner a;dig a at 0 2;falls lit=0;spoils 0;");
        c.open(0, 1);
        tells(c, "open or not", 1, 16, 20);
    }

    @Says("NONE without any left, when no SHIFT comes, without a seam, or for others")
    static void tellsNone(Check c) {
        tells(c, "without a seam", -1, -1, -1);
        c.mine(SEAM);
        tells(c, "all are left", 1, 0, 21);
        for (int what : EdgesMineTest.outside(3)) {
            c.due("what " + what, c.x.tells(what), -1);
        }
        feel(c, 0, 0, 0, 5);
        tells(c, "none is left", -1, -1, -1);
        feel(c, 0, 0, 0, 255);
        tells(c, "all are left again", 1, 0, 21);
        c.at(999);
        tells(c, "no shift comes", -1, -1, -1);
        c.at(980);
        feel(c, 20, 0, 0, 255);
        tells(c, "beyond 999 none is left", -1, -1, -1);
    }
}
