/** The edges that the document names for the tape and the text: promises 1 to 5, terms I. */
public final class EdgesTextTest {
    private static final String SEAM = "seam 3 by 3;";
    private static final String SEVEN = "seam 7 by 7;";
    private static final String[] OWN_WORDS = ("seam by shaft reach quake grade miner dig at order tubs pays spoils"
        + " falls gets depth shift far open lit if or and not all min max").split(" ");

    public static void main(String[] args) {
        Edges.run(EdgesTextTest.class);
    }

    // ---- the tape

    @Says("An object is used for at most 512 calls")
    static void the512thCallAnswers(Check c) {
        c.mine("seam 3 by 3;miner a;dig a at 0 1;");
        c.x.shifts(1);
        for (int on = 1; c.x.calls() < 510; on = 1 - on) {
            c.due("hang", c.x.hang(0, 1, on), true);
        }
        c.due("acts", c.x.has(15), 20);
        c.due("the 512th call", c.x.tubs(5), 1);
        c.due("calls", c.x.calls(), 512);
    }

    @Says("if there would be more than 1600")
    static void feedUpTo1600(Check c) {
        for (int k = 1; k <= 80; k++) {
            c.due("feed", c.x.feed(0x20202020, 0x20202020, 0x20202020, 0x20202020, 0x20202020), 20 * k);
        }
        c.due("one more of a full tape", c.x.feed(0, 0, 0, 0, 0), -1);
        c.due("refused", c.x.status(0), 1);
        for (int n : new int[] {1599, 1590, 1581}) {
            c.x.end(n);
            c.due("twenty more behind " + n, c.x.feed(0, 0, 0, 0, 0), -1);
        }
        c.due("refused", c.x.status(0), 4);
        c.x.end(1580);
        c.due("twenty more behind 1580", c.x.feed(0, 0, 0, 0, 0), 1600);
        c.due("not refused", c.x.status(0), 4);
    }

    @Says("NONE, refused (0), if there would be more than 1600")
    static void refusedFeedLeavesTheTape(Check c) {
        c.putText(SEAM + " ".repeat(1570));
        c.due("refused", c.x.feed(0x3b3b3b3b, 0x3b3b3b3b, 0x3b3b3b3b, 0x3b3b3b3b, 0x3b3b3b3b), -1);
        c.due("1582 bytes", c.x.end(1582), true);
        c.due("not 1583", c.x.end(1583), false);
        c.due("the text is whole", c.x.mine(), 1);
    }

    @Says("Twenty bytes come behind those on the tape, of each number the highest first")
    static void feedOrder(Check c) {
        // "seam 3 by 3;reach 20;" in two, cut to 12 and 9 bytes
        c.x.feed(0x7365616d, 0x20332062, 0x7920333b, -1, Integer.MIN_VALUE);
        c.x.end(12);
        c.due("behind those that are left", c.x.feed(0x72656163, 0x68203230, 0x3b202020, 0x20202020, 0x20202020), 32);
        c.due("mine()", c.x.mine(), 2);
        // the highest byte of a number below 0 is 128 to 255
        for (int octet : new int[] {128, 255}) {
            c.x.feed(0x7365616d, 0x20332062, 0x7920333b, octet << 24 | 0x202020, 0x20202020);
            c.due("a high byte", c.x.mine(), -1);
            c.due("its place", c.x.fault(1), 12);
        }
    }

    @Says("false, refused (0), if it has not so many, or n is below 0")
    static void endWithin(Check c) {
        c.due("0 of none", c.x.end(0), true);
        c.due("1 of none", c.x.end(1), false);
        c.putText(SEAM + "        ");
        int refused = c.x.status(0);
        for (int n : new int[] {21, 22, 1600, Integer.MAX_VALUE, -1, -2, Integer.MIN_VALUE}) {
            c.due("end(" + n + ")", c.x.end(n), false);
        }
        c.due("refused", c.x.status(0), refused + 7);
        c.due("all of it", c.x.end(20), true);
        c.due("one less", c.x.end(19), true);
        c.due("one more than there is", c.x.end(20), false);
        c.due("the text is whole", c.x.mine(), 1);
        c.putText(SEAM);
        c.due("none of it", c.x.end(0), true);
        c.due("nothing is left", c.x.mine(), -1);
        c.due("its length", c.x.fault(1), 0);
    }

    // ---- mine(), fault()

    private static final String TOLD = "seam 3 by 4;miner a;miner b;dig a at 0 1;dig b at 1 0;falls shift=1;"
        + "order o grade 0 tubs 1 pays 7;order p grade 0 tubs 1 pays 8;";

    private static void live(Check c) {
        c.mine(TOLD);
        c.x.seed(4711);
        c.put(1, 1, 1, 4);
        c.x.feel();
        c.x.shifts(2);
        c.x.sell(0);
        c.x.hang(0, 1, 1);
        c.x.send(1, 0, 2, 3);
    }

    @Says("NONE, refused (1), with a FAULT (all stays)")
    static void refusedMineLeavesAll(Check c) {
        for (String text : new String[] {"", "seam 4 by 4", "seam 4 by 4;miner a;miner a;", "seam 5 by 5;dig b at 0 0;",
            "seam 8 by 3;", SEAM + "gets ((((((((1))))))));", SEAM + "gets 1;gets 1;"}) {
            live(c);
            c.refused("mine() of " + text, 1, () -> {
                c.putText(text);
                return c.x.mine();
            });
            c.due("the plan stays", c.x.plan(1, 1), 2);
            c.due("the names stay", c.x.letter(0, 1, 0), 2);
            c.due("the rules stay", c.x.cell(1, 0, 5), 1);
            c.due("the sold order stays", c.x.order(0, 3), 1);
        }
    }

    @Says("The tape (it goes, refused or not) is THE MINE")
    static void theTapeGoes(Check c) {
        c.putText("seam 3");
        c.x.mine();
        c.due("refused, no byte is left", c.x.end(1), false);
        c.putText(SEAM);
        c.x.mine();
        c.due("not refused, no byte is left", c.x.end(1), false);
        c.due("the next mine() has none", c.x.mine(), -1);
        c.due("FAULT 1", c.x.fault(0), 1);
        c.due("at its length", c.x.fault(1), 0);
    }

    @Says("Without one all is as at first, nothing is KEPT or FELT, no ACT can be undone; the seed stays")
    static void allIsAsAtFirst(Check c) {
        live(c);
        int[] status = c.status();
        c.putText(TOLD);
        c.due("statements", c.x.mine(), 8);
        c.dueAll("has", c.has(), 3, 4, 2, 2, 2, 0, 1, 1, 0, 0, 0, 0, 55, 0, 0, 0, 4711);
        c.dueAll("the image", c.image(), Check.summed(0, 0, 0, 0, 0, 255, 5, 5, 5, 5, 5, 5, 5, 5, 5, 5, 5,
            0, 0, 0, 0, 1, 1, 1, 0, 0, 0, 0, 0, 0, 0, 0, 0, 0, 0, 0, 0, 0));
        c.due("nothing is felt", c.x.reaches(), 2097151);
        c.due("nothing is kept", c.x.kept(0, 0), -1);
        c.due("nothing can be undone", c.x.undo(), false);
        status[4]++;
        c.dueAll("refusals stay counted", c.status(), status);
    }

    @Says("0 without")
    static void nothingOfAnEarlierTextIsLeft(Check c) {
        c.mine("seam 7 by 7;shaft 6;reach 0;quake 100;grade 1 1 9;miner a;dig a at 6 1;order o grade 1 tubs 1 pays 1;"
            + "spoils 9;falls all;gets 0;");
        c.putText("seam 7 by 7;quake 100;reach 20");
        c.x.mine();
        c.putText("seam 7 by 7;miner b;dig b at 0 1;dig b at 0 2;dig b at 0 3;dig b at 0 4;");
        c.due("mine()", c.x.mine(), 6);
        c.due("shaft 0", c.x.cell(0, 0, 1), 1);
        c.due("not the earlier shaft", c.x.cell(6, 0, 1), 0);
        c.due("grade 5", c.x.cell(1, 1, 0), 5);
        c.due("one miner", c.x.has(2), 1);
        c.due("his name", c.x.letter(0, 0, 0), 2);
        c.due("no order", c.x.has(4), 0);
        c.due("a plan of its own", c.x.has(3), 4);
        c.due("nothing falls, gets tells the grade", c.x.shifts(4), 4);
        c.due("quake 0", c.x.odds(0, 4), 4900);
        c.due("grade 5 of the first", c.x.kept(0, 3), 5);
        c.due("spoils 1", c.x.cell(1, 0, 0), 1);
        c.due("reach 3", c.x.has(7), 4);
    }

    @Says("The tape (it goes, refused or not) is THE MINE")
    static void oneLongTextBehindAnother(Check c) {
        String text = SEAM + "miner a;dig a at 0 1;gets 3" + "+1-1".repeat(380) + ";";
        for (int k = 0; k < 4; k++) {
            c.putText(text);
            c.due("mine()", c.x.mine(), 4);
            c.due("a tub", c.x.shifts(1), 1);
            c.due("of the grade that its rule tells", c.x.kept(0, 3), 3);
        }
    }

    @Says("The tape has its first n bytes alone")
    static void whatIsCutIsGone(Check c) {
        c.putText(SEAM + "reach 21;");
        c.x.end(12);
        c.due("no byte behind them", c.x.mine(), 1);
        c.putText(SEAM + "shaft 11;");
        c.x.end(19);
        c.due("nor within a number", c.x.mine(), -1);
        c.due("at the length", c.x.fault(1), 19);
        c.putText(SEAM + "shafts 1;");
        c.x.end(17);
        c.due("nor within a word", c.x.mine(), -1);
        c.due("at the length", c.x.fault(1), 17);
    }

    @Says("its FAULT (what 0; 0 without, and ahead of any), its place (1; NONE without). NONE for another what")
    static void faultOfTheLatest(Check c) {
        c.due("ahead of any", c.x.fault(0), 0);
        c.due("its place", c.x.fault(1), -1);
        c.putText(SEAM + "quake 101;");
        c.x.mine();
        c.due("FAULT 4", c.x.fault(0), 4);
        c.due("its place", c.x.fault(1), 18);
        for (int what : new int[] {2, 3, -1, Integer.MAX_VALUE, Integer.MIN_VALUE}) {
            c.due("fault(" + what + ")", c.x.fault(what), -1);
        }
        c.putText(SEAM);
        c.x.mine();
        c.due("without", c.x.fault(0), 0);
        c.due("its place", c.x.fault(1), -1);
    }

    // ---- statements

    @Says("{ STATEMENT ; } (80 at most)")
    static void eightyStatements(Check c) {
        c.good(1, SEAM);
        c.good(79, SEAM + "shaft 1;".repeat(78));
        c.good(80, SEAM + "shaft 1;".repeat(79));
        c.good(80, SEAM + "shaft 1;".repeat(79) + " \n ");
    }

    @Says("or the 81st STATEMENT (whatever it is), at its first byte")
    static void the81stStatement(Check c) {
        String eighty = SEAM + "miner a;spoils 1;falls all;gets 1;" + "quake 1;".repeat(75);
        c.good(80, eighty);
        for (String one : new String[] {"quake 1;", "quake 101;", "seam 3 by 3;", "miner a;", "miner b;", "dig b at 0 0;",
            "spoils 1;", "falls all;", "gets 1;", "gets ((((((((1))))))));", "reach", "order", "abcdefgh", "12345", "x", ";",
            "!"}) {
            c.faultAt(6, eighty + "^" + one);
            c.faultAt(6, eighty + "\n ^" + one);
        }
    }

    @Says("a text without a STATEMENT has FAULT 1 at its length")
    static void noStatement(Check c) {
        c.faultAt(1, "^");
        c.faultAt(1, " ^");
        c.faultAt(1, "\n^");
        c.faultAt(1, " \n \n ^");
        c.faultAt(1, " ".repeat(1600) + "^");
    }

    @Says("seam N by N (3 .. 7 columns, rows")
    static void seamFrom3To7(Check c) {
        for (int n = 3; n <= 7; n++) {
            c.good(1, "seam " + n + " by 3;");
            c.due("columns", c.x.has(0), n);
            c.good(1, "seam 7 by " + n + ";");
            c.due("rows", c.x.has(1), n);
        }
        for (int n : new int[] {0, 1, 2, 8, 9, 10, 99, 9999}) {
            c.faultAt(4, "seam ^" + n + " by 3;");
            c.faultAt(4, "seam 3 by ^" + n + ";");
        }
    }

    @Says("the first STATEMENT, and it alone")
    static void seamFirstAndAlone(Check c) {
        for (String one : new String[] {"shaft 0;", "reach 0;", "quake 0;", "grade 0 0 0;", "miner a;", "dig a at 0 0;",
            "order a grade 1 tubs 1 pays 1;", "spoils 1;", "falls all;", "gets 1;"}) {
            c.faultAt(1, "^" + one + SEAM);
            c.faultAt(1, " \n^" + one);
        }
        c.faultAt(1, SEAM + "^" + SEAM);
        c.faultAt(1, SEAM + "shaft 0;\n^seam 4 by 4;");
    }

    @Says("shaft N (its column; the last one counts, 0 without)")
    static void shaftWithinTheColumns(Check c) {
        for (int columns = 3; columns <= 7; columns++) {
            String seam = "seam " + columns + " by 3;";
            for (int n = 0; n < columns; n++) {
                c.good(2, seam + "shaft " + n + ";");
                c.due("the shaft's cell", c.x.cell(n, 0, 1), 1);
                c.due("alone", c.x.has(6), 1);
            }
            c.faultAt(4, seam + "shaft ^" + columns + ";");
        }
        c.faultAt(4, SEVEN + "shaft ^9999;");
        c.good(3, SEVEN + "shaft 6;shaft 2;");
        c.due("the last one counts", c.x.cell(2, 0, 1), 1);
        c.due("not the first", c.x.cell(6, 0, 1), 0);
        c.good(1, SEVEN);
        c.due("0 without", c.x.cell(0, 0, 1), 1);
    }

    @Says("reach N (0 .. 20; 3 without)")
    static void reachTo20(Check c) {
        c.good(2, SEAM + "reach 0;");
        c.good(2, SEAM + "reach 20;");
        c.good(2, SEAM + "reach 0020;");
        c.faultAt(4, SEAM + "reach ^21;");
        c.faultAt(4, SEAM + "reach ^9999;");
    }

    @Says("quake N (0 .. 100; 0 without)")
    static void quakeTo100(Check c) {
        c.good(2, SEAM + "quake 0;");
        c.good(2, SEAM + "quake 100;");
        c.faultAt(4, SEAM + "quake ^101;");
        c.faultAt(4, SEAM + "quake ^9999;");
        c.good(3, SEAM + "quake 100;quake 0;");
        c.x.chance(1);
        c.due("the last one counts: one draw", c.x.has(16), 1103527590);
    }

    @Says("grade N N N (a CELL: a column, a row from 0 on; 0 .. 9; the last one counts, 5 without)")
    static void gradeWithin(Check c) {
        String seam = "seam 4 by 6;";
        c.good(3, seam + "grade 3 5 9;grade 1 0 0;");
        c.due("the last cell", c.x.cell(3, 5, 0), 9);
        c.due("in row 0", c.x.cell(1, 0, 0), 0);
        c.due("without", c.x.cell(2, 5, 0), 5);
        c.faultAt(4, seam + "grade ^4 0 0;");
        c.faultAt(4, seam + "grade 3 ^6 0;");
        c.faultAt(4, seam + "grade 3 5 ^10;");
        c.faultAt(4, seam + "grade ^4 6 10;");
        c.good(4, seam + "grade 2 2 9;grade 2 2 0;grade 2 2 1;");
        c.due("the last one counts", c.x.cell(2, 2, 0), 1);
        c.good(2, seam + "grade 0 0 7;");
        c.due("the shaft's is open all the same", c.x.cell(0, 0, 0), -1);
        c.due("and worth nothing", c.x.has(12), 115);
    }

    @Says("miner NAME (6 MINERS)")
    static void sixMiners(Check c) {
        String six = "miner a;miner b;miner c;miner d;miner e;miner f;";
        c.good(7, SEAM + six);
        c.due("miners", c.x.has(2), 6);
        c.due("the last one's name", c.x.letter(0, 5, 0), 6);
        c.due("he is not hurt", c.x.hurt(5), 0);
        c.due("no seventh", c.x.hurt(6), -1);
        c.faultAt(6, SEAM + six + "^miner g;");
        c.faultAt(6, SEAM + six + "^miner a;");
        c.faultAt(6, SEAM + six + " \n^miner");
        c.faultAt(6, SEAM + six + "shaft 0;^miner miner;");
    }

    @Says("the next row of the PLAN, 16 rows")
    static void sixteenRows(Check c) {
        String rows = "";
        for (int k = 0; k < 16; k++) {
            rows += "dig a at " + k % 7 + " " + k / 7 + ";";
        }
        c.good(18, SEVEN + "miner a;" + rows);
        c.due("rows", c.x.has(3), 16);
        for (int k = 0; k < 16; k++) {
            c.due("column of row " + k, c.x.plan(k, 1), k % 7);
            c.due("row of row " + k, c.x.plan(k, 2), k / 7);
        }
        c.due("no seventeenth", c.x.plan(16, 0), -1);
        c.faultAt(6, SEVEN + "miner a;" + rows + "^dig a at 0 0;");
        c.faultAt(6, SEVEN + "miner a;" + rows + "^dig b at 9 9;");
        c.faultAt(4, SEVEN + "miner a;dig a at ^7 0;");
        c.faultAt(4, SEVEN + "miner a;dig a at 0 ^7;");
        c.good(3, SEVEN + "miner a;dig a at 6 6;");
        c.good(3, SEVEN + "miner a;dig a at 0 0;");
    }

    @Says("order NAME grade N tubs N pays N (0 .. 9; 1 .. 9; 0 .. 999; 5 ORDERS)")
    static void ordersWithin(Check c) {
        c.good(2, SEAM + "order a grade 0 tubs 1 pays 0;");
        c.good(2, SEAM + "order a grade 9 tubs 9 pays 999;");
        c.due("grade", c.x.order(0, 0), 9);
        c.due("tubs", c.x.order(0, 1), 9);
        c.due("pays", c.x.order(0, 2), 999);
        c.faultAt(4, SEAM + "order a grade ^10 tubs 1 pays 0;");
        c.faultAt(4, SEAM + "order a grade 0 tubs ^0 pays 0;");
        c.faultAt(4, SEAM + "order a grade 0 tubs ^10 pays 0;");
        c.faultAt(4, SEAM + "order a grade 0 tubs 1 pays ^1000;");
        String five = "";
        for (char name = 'a'; name < 'f'; name++) {
            five += "order " + name + " grade 1 tubs 1 pays 1;";
        }
        c.good(6, SEAM + five);
        c.due("orders", c.x.has(4), 5);
        c.due("the last one's name", c.x.letter(1, 4, 0), 5);
        c.due("no sixth", c.x.order(5, 0), -1);
        c.faultAt(6, SEAM + five + "^order f grade 1 tubs 1 pays 1;");
        c.faultAt(6, SEAM + five + "^order a");
    }

    @Says("spoils SUM, falls TEST, gets SUM (one each)")
    static void oneRuleEach(Check c) {
        c.good(4, SEAM + "spoils 1;falls all;gets 1;");
        c.good(4, SEAM + "gets 1;falls all;spoils 1;");
        c.faultAt(6, SEAM + "spoils 0;falls all;gets 1;^spoils 0;");
        c.faultAt(6, SEAM + "spoils 1;falls not all;gets 1;^falls 1=1;");
        c.faultAt(6, SEAM + "spoils 1;falls all;gets 0;^gets ;");
    }

    // ---- names, numbers, blanks

    @Says("NAMES: 1 to 6 letters")
    static void namesOfSixLetters(Check c) {
        c.good(2, SEAM + "miner a;");
        c.good(4, SEAM + "miner zzzzzz;order aaaaaa grade 1 tubs 1 pays 1;dig zzzzzz at 0 1;");
        for (int k = 0; k < 6; k++) {
            c.due("letter " + k, c.x.letter(0, 0, k), 26);
            c.due("the order's letter " + k, c.x.letter(1, 0, k), 1);
        }
        c.faultAt(1, SEAM + "miner zzzzzz^z;");
        c.faultAt(1, SEAM + "order zzzzzz^zz grade 1 tubs 1 pays 1;");
        c.faultAt(1, SEAM + "miner a;dig aaaaaa^a at 0 0;");
        c.faultAt(1, SEAM + "miner ^;");
        c.faultAt(1, SEAM + "miner ^4;");
        c.faultAt(1, SEAM + "miner ^Bob;");
        c.faultAt(1, SEAM + "miner b^Ob;");
        c.faultAt(1, SEAM + "miner a^1;");
        for (char sign : new char[] {96, 123, 64, 91, 47, 58, 127, 128, 225, 255, 0}) {
            c.faultAt(1, SEAM + "miner ^" + sign + ";");
            c.faultAt(1, SEAM + "miner a^" + sign + ";");
        }
    }

    @Says("unlike ones (of both sorts)")
    static void unlikeNames(Check c) {
        String order = " grade 1 tubs 1 pays 1;";
        c.good(6, SEAM + "miner a;miner aa;miner aaaaaa;miner aaaaab;order aaaaa" + order);
        c.faultAt(2, SEAM + "miner a;miner b;miner ^a;");
        c.faultAt(2, SEAM + "miner aaaaab;order a" + order + "miner ^aaaaab;");
        c.faultAt(2, SEAM + "order a" + order + "miner ^a;");
        c.faultAt(2, SEAM + "miner a;order ^a" + order);
        c.faultAt(2, SEAM + "order a" + order + "order b" + order + "order ^b" + order);
        c.faultAt(2, SEAM + "miner a;miner ^a");
    }

    @Says("told ahead of where they are asked")
    static void namesToldAhead(Check c) {
        c.good(3, SEAM + "miner a;dig a at 0 0;");
        c.faultAt(3, SEAM + "dig ^a at 0 0;miner a;");
        c.faultAt(3, SEAM + "miner a;dig ^b at 0 0;");
        c.faultAt(3, SEAM + "miner ab;dig ^a at 0 0;");
        c.faultAt(3, SEAM + "miner a;dig ^ab at 0 0;");
        c.faultAt(3, SEAM + "order a grade 1 tubs 1 pays 1;dig ^a at 0 0;");
        c.faultAt(3, SEAM + "dig ^a");
    }

    @Says("OWN WORDS, which no NAME is")
    static void ownWordsAreNoNames(Check c) {
        for (String own : OWN_WORDS) {
            c.faultAt(1, SEAM + "miner ^" + own + ";");
            c.faultAt(1, SEAM + "order ^" + own + " grade 1 tubs 1 pays 1;");
            c.faultAt(1, SEAM + "miner a;dig ^" + own + " at 0 0;");
            if (own.length() < 6) {
                c.good(3, SEAM + "miner " + own + "x;dig " + own + "x at 0 0;");
            }
            if (own.length() > 2) {
                String less = own.substring(0, own.length() - 1);
                c.good(3, SEAM + "miner " + less + ";dig " + less + " at 0 0;");
            }
        }
    }

    @Says("NUMBERS: 1 to 4 digits")
    static void numbersOfFourDigits(Check c) {
        c.good(3, "seam 0003 by 007;shaft 02;gets 9999+0000;");
        c.faultAt(1, "seam 0000^3 by 3;");
        c.faultAt(1, "seam 1234^5 by 3;");
        c.faultAt(1, SEAM + "gets 1000^00;");
        c.faultAt(1, SEAM + "falls 1=9999^9;");
        for (char sign : new char[] {47, 58, 176}) {
            c.faultAt(1, SEAM + "shaft ^" + sign + ";");
            c.faultAt(1, SEAM + "shaft 1^" + sign + ";");
        }
    }

    @Says("a 7th letter, a 5th digit at itself, whatever may stand there")
    static void seventhLetterFifthDigit(Check c) {
        c.faultAt(1, "abcdef^g");
        c.faultAt(1, "1234^5");
        c.faultAt(1, "seamse^am 3 by 3;");
        c.faultAt(1, SEAM + "shaft abcdef^g;");
        c.faultAt(1, SEAM + "shaft 0 abcdef^gh;");
        c.faultAt(1, SEAM + "shafts^s 0;");
        c.faultAt(1, SEAM + "0000^0;");
        c.faultAt(1, SEAM + "miner 1234^5;");
        c.faultAt(1, SEAM + "shaft 0000^0;");
        c.faultAt(1, SEAM + "shaft 9999^9;");
        c.faultAt(1, SEAM + "miner a;miner aaaaaa^a;");
        c.faultAt(1, SEAM + "gets grader^s;");
        c.faultAt(1, SEAM + "gets 1 2345^67;");
        c.faultAt(1, SEAM + "falls [all orator^s");
        c.faultAt(1, "a".repeat(6) + "^" + "a".repeat(1594));
    }

    @Says("Blanks (10, 32) are where one likes")
    static void blanks(Check c) {
        String[] words = ("seam 3 by 3 ; shaft 1 ; grade 1 1 2 ; miner a ; dig a at 0 1 ; order o grade 1 tubs 2 pays 3 ;"
            + " spoils far + 1 ; falls not [ all and 1 < 2 ] ; gets if ( lit = 1 , min ( 1 , 2 ) , ( 3 ) ) ;").split(" ");
        c.good(9, String.join("\n", words));
        c.good(9, " \n" + String.join(" \n  ", words) + "\n\n");
        c.good(9, String.join(" ", words).replaceAll(" ?([^a-z0-9 ]) ?", "$1"));
        c.good(2, " ".repeat(1578) + SEAM + "\n".repeat(2) + "shaft 1;");
        for (char no : new char[] {9, 11, 12, 13, 0, 31, 33, 160, 255}) {
            c.faultAt(1, "^" + no + SEAM);
            c.faultAt(1, "seam^" + no + "3 by 3;");
            c.faultAt(1, SEAM + "^" + no);
        }
        c.faultAt(1, "^se am 3 by 3;");
        c.faultAt(1, SEAM + "shaft 0 ^0;");
    }

    @Says("(words and numbers side by side need one)")
    static void wordsAndNumbersApart(Check c) {
        c.faultAt(1, "seam^3 by 3;");
        c.faultAt(1, "seam 3^by 3;");
        c.faultAt(1, "seam 3 by^3;");
        c.faultAt(1, SEAM + "miner a^1;");
        c.faultAt(1, SEAM + "miner a;dig a at^0 0;");
        c.faultAt(1, SEAM + "falls 1=1^or 1=1;");
        c.faultAt(1, SEAM + "falls 1=1 or^1=1;");
        c.faultAt(1, SEAM + "falls not^1=1;");
        c.faultAt(3, SEAM + "miner a;dig ^aat 0 0;");
        c.faultAt(4, SEAM + "grade 1 ^11;");
        c.faultAt(1, SEAM + "shaft^0;");
        c.good(3, SEAM + "falls not[1=1]or[all]and 1<2;gets(1)+if(all,1,2)*max(1,2);");
    }

    // ---- faults

    @Says("1 the first byte with which no MINE goes on (words and numbers whole, at their first byte")
    static void wholeWordsAtTheirFirstByte(Check c) {
        c.faultAt(1, "^sea 3 by 3;");
        c.faultAt(1, "^seams 3 by 3;");
        c.faultAt(1, "seam 3 ^b 3;");
        c.faultAt(1, "seam 3 ^bye 3;");
        c.faultAt(1, "seam 3 by 3 ^3;");
        c.faultAt(1, SEAM + "^;");
        c.faultAt(1, SEAM + "^shaf 0;");
        c.faultAt(1, SEAM + "^1;");
        c.faultAt(1, SEAM + "miner a ^b;");
        c.faultAt(1, SEAM + "miner a;dig a ^a 0 0;");
        c.faultAt(1, SEAM + "miner a;dig a at 0^;");
        c.faultAt(1, SEAM + "order a grade 1 ^tub 1;");
        c.faultAt(1, SEAM + "order a grade 1 tubs 1 ^pay 1;");
        c.faultAt(1, SEAM + "order a ^tubs 1 grade 1 pays 1;");
        c.faultAt(1, SEAM + "gets ^graded;");
        c.faultAt(1, SEAM + "gets 1 ^1234;");
        c.faultAt(1, SEAM + "falls 1=1 ^andy 1=1;");
        c.faultAt(1, SEAM + "falls ^al;");
    }

    @Says("1 the first byte with which no MINE goes on")
    static void everyByteWhereAPartMustBe(Check c) {
        for (int octet = 0; octet < 256; octet++) {
            char b = (char) octet;
            String ahead = SEAM + "gets ";
            if (b >= '0' && b <= '9') {
                c.good(2, ahead + b + ";");
            } else if (b == ' ' || b == '\n' || b == '(') {
                c.faultAt(1, ahead + b + "^;");
            } else {
                c.faultAt(1, ahead + "^" + b + ";");
            }
        }
    }

    @Says("1 the first byte with which no MINE goes on")
    static void everyByteWhereASignMustBe(Check c) {
        for (int octet = 0; octet < 256; octet++) {
            char b = (char) octet;
            String ahead = SEAM + "falls 1";
            if (b == '<' || b == '>' || b == '=') {
                c.good(2, ahead + b + "1;");
            } else if ("+-*/%".indexOf(b) >= 0 || b >= '0' && b <= '9') {
                c.faultAt(1, ahead + b + "1^;");
            } else if (b == ' ' || b == '\n') {
                c.faultAt(1, ahead + b + "^1;");
            } else {
                c.faultAt(1, ahead + "^" + b + "1;");
            }
        }
    }

    @Says("1 the first byte with which no MINE goes on")
    static void everyByteWhereAStatementMustBe(Check c) {
        for (int octet = 0; octet < 256; octet++) {
            char b = (char) octet;
            if (b == ' ' || b == '\n') {
                c.good(1, SEAM + b);
            } else {
                c.faultAt(1, SEAM + "^" + b);
            }
        }
    }

    @Says("1 the first byte with which no MINE goes on")
    static void aNumberIsNoSign(Check c) {
        c.faultAt(1, "seam 3 by 3 ^" + (int) ';');
        c.faultAt(1, SEAM + "gets min ^" + (int) '(' + " 1,1);");
        c.faultAt(1, SEAM + "gets (1 ^" + (int) ')' + ";");
        c.faultAt(1, SEAM + "gets min(1 ^" + (int) ',' + " 1);");
        c.faultAt(1, SEAM + "gets 1 ^" + (int) '+' + " 1;");
        c.faultAt(1, SEAM + "gets 1 ^" + (int) '*' + " 1;");
        c.faultAt(1, SEAM + "falls 1 ^" + (int) '<' + " 1;");
        c.faultAt(1, SEAM + "falls [all ^" + (int) ']' + ";");
    }

    @Says("at the text's length, if it ends too soon")
    static void everyCutText(Check c) {
        String text = SEAM + "shaft 1;reach 2;quake 3;grade 1 1 4;miner a;dig a at 0 1;order b grade 1 tubs 2 pays 3;"
            + "spoils far+grade*2;falls not [all or lit=1] and open<shift;gets min(1,max(depth,if(grade>1,2,(3))));";
        c.good(11, text);
        for (int cut = 0; cut < text.length(); cut++) {
            String part = text.substring(0, cut);
            boolean inside = cut > 0 && isLetter(text.charAt(cut - 1)) && isLetter(text.charAt(cut));
            if (part.endsWith(";")) {
                c.fault(part, 0, -1);
            } else if (inside) {
                int start = cut;
                while (start > 0 && isLetter(text.charAt(start - 1))) {
                    start--;
                }
                c.fault(part, 1, start);
            } else {
                c.fault(part, 1, cut);
                c.fault(part + " \n", 1, cut + 2);
            }
        }
    }

    private static boolean isLetter(char c) {
        return c >= 'a' && c <= 'z';
    }

    @Says("FAULTS, the first along the text")
    static void theFirstFaultCounts(Check c) {
        c.faultAt(4, "seam ^9 by 9;;");
        c.faultAt(4, SEAM + "shaft ^3;miner miner;");
        c.faultAt(2, SEAM + "miner a;miner ^a;dig b at 9 9;");
        c.faultAt(3, SEAM + "dig ^b at 9 9;seam");
        c.faultAt(6, SEAM + "gets 1;^gets ((((((((1))))))));");
        c.faultAt(5, SEAM + "gets (((((((^(;gets 1;");
        c.faultAt(4, "seam ^9by 3;");
        c.faultAt(1, SEAM + "gets 1;^;shaft 9;");
    }

    @Says("4 a NUMBER that can't be, at its first byte")
    static void numbersThatCannotBe(Check c) {
        c.faultAt(4, "seam ^0002 by 3;");
        c.faultAt(4, SEAM + "shaft  \n ^0003;");
        c.faultAt(4, SEAM + "quake ^0101;");
        c.faultAt(4, SEAM + "quake ^101");
        c.good(2, SEAM + "gets 9999-0;");
    }

    @Says("5 the 8th ( [ not that is open at once (not until its FACT ends), at it")
    static void eightOpenAtOnce(Check c) {
        c.good(2, SEAM + "gets (((((((1)))))));");
        c.faultAt(5, SEAM + "gets (((((((^(1))))))));");
        c.good(2, SEAM + "falls [[[[[[[all]]]]]]];");
        c.faultAt(5, SEAM + "falls [[[[[[[^[all]]]]]]]];");
        c.good(2, SEAM + "falls not not not not not not not all;");
        c.faultAt(5, SEAM + "falls not not not not not not not ^not all;");
        c.faultAt(5, SEAM + "falls not [not [not [not ^[all]]]];");
        c.faultAt(5, SEAM + "falls not [not [not [(^(1))=1]]];");
        c.good(2, SEAM + "falls not [not [not [(1)=1]]];");
        c.good(2, SEAM + "gets " + "(1)+".repeat(20) + "(((((((1)))))))*(((((((2)))))));");
        c.good(2, SEAM + "falls " + "not all and ".repeat(20) + "not all or not [not all];");
        c.good(2, SEAM + "falls " + "[all] and ".repeat(20) + "[[[[[[[all]]]]]]] or [[[[[[[all]]]]]]];");
        c.good(2, SEAM + "gets " + "min(1,2)+".repeat(20) + "if(all,1,2)+max((1),(2));");
    }

    @Says("(not until its FACT ends)")
    static void notUntilItsFactEnds(Check c) {
        String six = "not not not not not not ";
        c.good(2, SEAM + "falls " + six + "(1)=(1);");
        c.faultAt(5, SEAM + "falls " + six + "(1)=(^(1));");
        c.faultAt(5, SEAM + "falls " + six + "(^(1))=1;");
        c.faultAt(5, SEAM + "falls " + six + "[^[all]];");
        c.faultAt(5, SEAM + "falls " + six + "1+2*min(1,^(1))=1;");
        c.good(2, SEAM + "falls " + six + "not all and " + six + "not all;");
        c.good(2, SEAM + "falls " + six + "[all] or (((((((1)))))))=1;");
        c.faultAt(5, SEAM + "falls not [not not not not not ^not all];");
        c.good(2, SEAM + "falls not [not not not not not all and not not not not not all];");
    }

    @Says("the 8th ( [ not")
    static void everyParenthesisCounts(Check c) {
        c.good(2, SEAM + "gets ((((((min(1,2)))))));");
        c.faultAt(5, SEAM + "gets (((((((min^(1,2))))))));");
        c.faultAt(5, SEAM + "gets (((((((max ^(1,2))))))));");
        c.faultAt(5, SEAM + "gets (((((((if\n^(all,1,2))))))));");
        c.faultAt(5, SEAM + "gets if(if(if(if(if(if(if(^(1)=1,1,1)=1,1,1)=1,1,1)=1,1,1)=1,1,1)=1,1,1)=1,1,1);");
        c.good(2, SEAM + "gets if(if(if(if(if(if(if(1=1,1,1)=1,1,1)=1,1,1)=1,1,1)=1,1,1)=1,1,1)=1,1,1);");
        c.faultAt(5, SEAM + "gets if([[[[[[^[all]]]]]]],1,1);");
        c.good(2, SEAM + "gets if([[[[[[all]]]]]],1,1);");
        c.faultAt(1, SEAM + "gets (((((((min ^[");
        c.faultAt(1, SEAM + "gets (((((((1^(");
        c.faultAt(1, SEAM + "gets (((((((^[");
        c.faultAt(1, SEAM + "gets (((((((^not");
    }

    @Says("in spoils: far; in falls, gets: open; lit")
    static void partsOfEachRule(Check c) {
        c.good(2, SEAM + "spoils far+grade+depth+shift;");
        c.faultAt(1, SEAM + "spoils ^open;");
        c.faultAt(1, SEAM + "spoils 1+if(^open=1,1,1);");
        c.good(2, SEAM + "falls open+lit+grade+depth+shift=1;");
        c.faultAt(1, SEAM + "falls ^far=1;");
        c.good(2, SEAM + "gets open+lit+grade+depth+shift;");
        c.faultAt(1, SEAM + "gets ^far;");
        c.faultAt(1, SEAM + "spoils 1;gets min(1,^far);");
        c.good(3, SEAM + "gets open;spoils far;");
        for (String own : "seam by shaft reach quake miner dig at order tubs pays spoils falls gets or and not all".split(" ")) {
            c.faultAt(1, SEAM + "gets ^" + own + ";");
        }
    }

    @Says("SIGN < or > or =")
    static void signs(Check c) {
        c.good(2, SEAM + "falls 1<1 and 1>1 and 1=1;");
        c.faultAt(1, SEAM + "falls 1^;");
        c.faultAt(1, SEAM + "falls 1<^=1;");
        c.faultAt(1, SEAM + "falls 1=^=1;");
        c.faultAt(1, SEAM + "falls 1^!1;");
        c.faultAt(1, SEAM + "falls 1<1^<1;");
        c.faultAt(1, SEAM + "falls all^=all;");
        c.faultAt(1, SEAM + "falls (1^=1);");
        c.faultAt(1, SEAM + "falls [1^];");
        c.faultAt(1, SEAM + "gets 1^=1;");
        c.faultAt(1, SEAM + "gets ^all;");
    }
}
