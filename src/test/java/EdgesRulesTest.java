/** The edges that the document names for what SUMS and TESTS give: terms I, the text block. */
public final class EdgesRulesTest {
    private static final String MILLION = "1000*1000";
    private static final String LESS_MILLION = "(0-1000)*1000";

    public static void main(String[] args) {
        Edges.run(EdgesRulesTest.class);
    }

    private static String told(int number) {
        return number < 0 ? "(0-" + -number + ")" : String.valueOf(number);
    }

    /** Whether the test holds for the first digging, by falls and by an if of gets. */
    private static void holds(Check c, String test, boolean want) {
        c.mine("seam 3 by 3;miner a;dig a at 0 1;falls " + test + ";");
        c.x.shifts(1);
        c.due("falls " + test, c.x.hurt(0), want ? 1 : 0);
        c.mine("seam 3 by 3;miner a;dig a at 0 1;gets if(" + test + ",3,7);");
        c.x.shifts(1);
        c.due("gets if(" + test + ",3,7)", c.x.kept(0, 3), want ? 3 : 7);
    }

    private static void like(Check c, String one, String other) {
        holds(c, one + "=" + other, true);
    }

    private static void gives(Check c, String sum, int want) {
        like(c, sum, told(want));
    }

    @Says("/ gives the greatest whole number not above")
    static void divisionGoesDown(Check c) {
        gives(c, "6/2", 3);
        gives(c, "7/2", 3);
        gives(c, "1/2", 0);
        gives(c, "0/2", 0);
        gives(c, "(0-1)/2", -1);
        gives(c, "(0-6)/2", -3);
        gives(c, "(0-7)/2", -4);
        gives(c, "7/(0-2)", -4);
        gives(c, "6/(0-2)", -3);
        gives(c, "1/(0-2)", -1);
        gives(c, "(0-7)/(0-2)", 3);
        gives(c, "(0-1)/(0-2)", 0);
        gives(c, "0/(0-2)", 0);
        like(c, LESS_MILLION + "/(0-1)", MILLION);
    }

    @Says("% what is left (a less b times that)")
    static void whatIsLeft(Check c) {
        gives(c, "6%2", 0);
        gives(c, "7%4", 3);
        gives(c, "3%4", 3);
        gives(c, "(0-1)%4", 3);
        gives(c, "(0-4)%4", 0);
        gives(c, "(0-5)%4", 3);
        gives(c, "1%(0-4)", -3);
        gives(c, "4%(0-4)", 0);
        gives(c, "5%(0-4)", -3);
        gives(c, "(0-5)%(0-4)", -1);
        gives(c, "(0-1000)*1000%7", 6);
        gives(c, "7%(0-1000*1000)+1000*1000", 7);
    }

    @Says("by 0 both give 0")
    static void byNought(Check c) {
        gives(c, "5/0", 0);
        gives(c, "(0-5)/0", 0);
        gives(c, "0/0", 0);
        gives(c, "5%0", 0);
        gives(c, "(0-5)%0", 0);
        gives(c, "0%0", 0);
        gives(c, "9/(2-2)+9%(3-3)+4", 4);
        gives(c, MILLION + "/0", 0);
        gives(c, MILLION + "%0", 0);
    }

    @Says("each result above 10 to the 6 is that")
    static void aboveAMillion(Check c) {
        gives(c, MILLION + "/1000", 1000);
        holds(c, MILLION + "-1<" + MILLION, true);
        like(c, MILLION + "-1+1", MILLION);
        like(c, MILLION + "+1", MILLION);
        like(c, MILLION + "+0", MILLION);
        like(c, "1001*1000", MILLION);
        like(c, "9999*9999", MILLION);
        like(c, "9999*9999*9999", MILLION);
        like(c, "(0-9999)*(0-9999)", MILLION);
        like(c, MILLION + "-(0-1)", MILLION);
        like(c, MILLION + "/(0-1)*(0-2)", MILLION);
        gives(c, "9999*9999-999*1000", 1000);
        // each result, not the last alone
        gives(c, MILLION + "+9999-999*1000", 1000);
        gives(c, "(" + MILLION + "*2)/1000", 1000);
        gives(c, "min(9999*9999," + MILLION + "+5)-999*1000-999", 1);
    }

    @Says("below -10 to the 6 likewise")
    static void belowLessAMillion(Check c) {
        gives(c, LESS_MILLION + "/1000", -1000);
        holds(c, LESS_MILLION + "+1>" + LESS_MILLION, true);
        like(c, LESS_MILLION + "+1-1", LESS_MILLION);
        like(c, LESS_MILLION + "-1", LESS_MILLION);
        like(c, "(0-1001)*1000", LESS_MILLION);
        like(c, "(0-9999)*9999", LESS_MILLION);
        like(c, "9999*(0-9999)", LESS_MILLION);
        like(c, LESS_MILLION + "+(0-1)", LESS_MILLION);
        like(c, LESS_MILLION + "*2", LESS_MILLION);
        gives(c, "(0-9999)*9999+999*1000", -1000);
        gives(c, LESS_MILLION + "-9999+999*1000", -1000);
        gives(c, "max((0-9999)*9999," + LESS_MILLION + "-5)+999*1000+999", -1);
    }

    @Says("All from the left on")
    static void fromTheLeft(Check c) {
        gives(c, "9-3-2", 4);
        gives(c, "9-3+2", 8);
        gives(c, "8/4/2", 1);
        gives(c, "8/4*2", 4);
        gives(c, "8*4%5", 2);
        gives(c, "7%4*2", 6);
        gives(c, "1+2*3", 7);
        gives(c, "2*3+1", 7);
        gives(c, "(1+2)*3", 9);
        holds(c, "all or all and not all", true);
        holds(c, "not all and not all or all", true);
        holds(c, "not all and [not all or all]", false);
        holds(c, "not all or all", true);
        holds(c, "not [all or all]", false);
    }

    @Says("(the first SUM where the TEST holds, else the second one)")
    static void ifTakesOne(Check c) {
        gives(c, "if(all,5,6)", 5);
        gives(c, "if(not all,5,6)", 6);
        gives(c, "if(1<1,5,6)", 6);
        gives(c, "if(1=1,if(1>1,1,2),3)", 2);
    }

    @Says("SUM SIGN SUM, SIGN < or > or =")
    static void signsAtTheirEdge(Check c) {
        for (int d = -1; d <= 1; d++) {
            holds(c, told(d) + "<0", d < 0);
            holds(c, told(d) + ">0", d > 0);
            holds(c, told(d) + "=0", d == 0);
            holds(c, "5000<" + (5000 + d), d > 0);
            holds(c, "5000>" + (5000 + d), d < 0);
            holds(c, "5000=" + (5000 + d), d == 0);
        }
        holds(c, "min(2,2)=2 and max(2,2)=2", true);
        holds(c, "min(0-1,1)=0-1 and max(0-1,1)=1", true);
        holds(c, "min(1,0-1)=0-1 and max(1,0-1)=1", true);
    }

    // ---- what a rule asks of a cell

    private static final String AROUND = "seam 3 by 3;shaft 1;miner a;dig a at 1 1;";

    @Says("how many of these are OPEN")
    static void openBeside(Check c) {
        int[][] sides = {{0, 1}, {2, 1}, {1, 2}};
        for (int many = 0; many <= 3; many++) {
            c.mine(AROUND + "gets open;");
            for (int k = 0; k < many; k++) {
                c.change(c.cellByte(sides[k][0], sides[k][1]), k == 1 ? 254 : 255);
            }
            c.due("dug", c.x.shifts(1), 1);
            c.due("open beside it", c.x.kept(0, 3), many + 1);
        }
        // corners have no side in common
        c.mine(AROUND + "gets open;");
        c.open(0, 0, 2, 0, 0, 2, 2, 2);
        c.x.shifts(1);
        c.due("the shaft's alone", c.x.kept(0, 3), 1);
    }

    @Says("1 if one of these is LIT, else 0")
    static void litBeside(Check c) {
        c.mine(AROUND + "reach 0;gets lit+1;");
        c.x.shifts(1);
        c.due("beside the shaft", c.x.kept(0, 3), 2);
        c.mine("seam 3 by 3;shaft 1;miner a;dig a at 1 2;reach 0;gets lit+1;");
        c.open(1, 1);
        c.x.shifts(1);
        c.due("beside one that is too far", c.x.kept(0, 3), 1);
        c.mine("seam 3 by 3;shaft 1;miner a;dig a at 1 2;reach 1;gets lit+1;");
        c.open(1, 1, 0, 2, 2, 2);
        c.x.shifts(1);
        c.due("beside one that is just near enough, and two that are not", c.x.kept(0, 3), 2);
        c.mine("seam 3 by 3;shaft 1;miner a;dig a at 1 2;gets lit+1;");
        c.change(c.cellByte(1, 1), 254);
        c.x.shifts(1);
        c.due("beside a curtain", c.x.kept(0, 3), 1);
        c.mine(AROUND + "gets lit+1;");
        c.open(0, 1, 2, 1, 1, 2);
        c.x.shifts(1);
        c.due("one, not four", c.x.kept(0, 3), 2);
    }

    @Says("Of the CELL its GRADE, its row; the SHIFT")
    static void gradeRowShift(Check c) {
        for (int grade = 0; grade <= 9; grade++) {
            c.mine("seam 3 by 3;grade 0 1 " + grade + ";miner a;dig a at 0 1;gets 9-grade;");
            c.x.shifts(1);
            c.due("its grade", c.x.kept(0, 3), 9 - grade);
        }
        c.mine("seam 3 by 7;miner a;dig a at 0 6;dig a at 1 0;gets depth;");
        c.open(0, 5);
        c.x.shifts(2);
        c.due("the last row", c.x.kept(0, 3), 6);
        c.due("row 0", c.x.kept(1, 3), 0);
        for (int shift : new int[] {0, 255, 256, 998}) {
            c.mine("seam 3 by 3;miner a;dig a at 0 1;gets if(shift=" + shift + ",4,6);");
            c.at(shift);
            c.x.shifts(1);
            c.due("shift " + shift, c.x.kept(0, 3), 4);
        }
    }

    @Says("how far from the shaft the nearest LIT one of the CELLS next to it is")
    static void nearestLit(Check c) {
        c.mine("seam 7 by 7;reach 20;spoils if(far=0,1,if(far=10,2,if(far=20,3,0)));");
        openSnake(c);
        c.x.shifts(1);
        c.due("beside the shaft", c.x.cell(0, 1, 0), 4);
        c.due("10, not 20", c.x.cell(4, 3, 0), 3);
        c.due("20", c.x.cell(4, 5, 0), 2);
        c.due("19", c.x.cell(3, 5, 0), 5);
        // (2, 1) lies beside (2, 0), which is 2 far, and (2, 2), which is 4 far
        c.mine("seam 4 by 4;grade 2 1 9;spoils far;reach 4;");
        c.open(1, 0, 2, 0, 0, 1, 0, 2, 1, 2, 2, 2);
        c.x.shifts(1);
        c.due("2, not 4", c.x.cell(2, 1, 0), 7);
        c.x.undo();
        c.x.hang(2, 0, 1);
        c.x.shifts(1);
        c.due("4, where the nearer one has a curtain", c.x.cell(2, 1, 0), 5);
        c.x.undo();
        c.x.hang(2, 2, 1);
        c.x.shifts(1);
        c.due("none is lit", c.x.cell(2, 1, 0), 9);
    }

    /** In a seam of 7 by 7 with its shaft at 0: FAR 0 to 22, row 0, row 2 backwards, row 4. */
    static void openSnake(Check c) {
        int[] changes = new int[2 * 23];
        for (int far = 0; far < 23; far++) {
            changes[2 * far] = c.cellByte(snakeColumn(far), snakeRow(far));
            changes[2 * far + 1] = 255;
        }
        c.change(changes);
    }

    static int snakeColumn(int far) {
        int k = far % 16;
        return k < 8 ? Math.min(6, k) : Math.max(0, 14 - k);
    }

    static int snakeRow(int far) {
        int k = far % 16;
        return 4 * (far / 16) + (k < 7 ? 0 : k == 7 ? 1 : k < 15 ? 2 : 3);
    }

    @Says("0 .. 9 (below is 0, above 9)")
    static void tubsOfGrade0To9(Check c) {
        int[][] all = {{-9999, 0}, {-1, 0}, {0, 0}, {1, 1}, {8, 8}, {9, 9}, {10, 9}, {9999, 9}};
        for (int[] one : all) {
            c.mine("seam 3 by 3;miner a;dig a at 0 1;gets " + told(one[0]) + ";");
            c.due("a tub", c.x.shifts(1), 1);
            c.due("gets " + one[0], c.x.tubs(one[1]), 1);
            c.due("kept", c.x.kept(0, 3), one[1]);
        }
        for (String sum : new String[] {MILLION, LESS_MILLION}) {
            c.mine("seam 3 by 3;miner a;dig a at 0 1;gets " + sum + ";");
            c.x.shifts(1);
            c.due("gets " + sum, c.x.kept(0, 3), sum.equals(MILLION) ? 9 : 0);
        }
    }

    @Says("(without it: by 1; by 0 if it is below 0), 0 at least")
    static void spoilsBy(Check c) {
        String[] rules = {"", "spoils 0;", "spoils 1;", "spoils 0-1;", "spoils 0-1000*1000;", "spoils 8;", "spoils 9;",
            "spoils 10;", "spoils 1000*1000;"};
        int[] want = {8, 9, 8, 9, 9, 1, 0, 0, 0};
        for (int k = 0; k < rules.length; k++) {
            c.mine("seam 3 by 3;grade 1 0 9;grade 0 1 0;" + rules[k]);
            c.x.shifts(1);
            c.due(rules[k], c.x.cell(1, 0, 0), want[k]);
            c.due(rules[k] + " of grade 0", c.x.cell(0, 1, 0), 0);
        }
        c.mine("seam 3 by 3;grade 1 0 1;");
        c.x.shifts(40);
        c.due("0 at least", c.x.cell(1, 0, 0), 0);
    }

    @Says("each SOLID CELL next to a LIT one has a GRADE that is less by the SUM of spoils")
    static void spoilsByWhatIsSoOfEachCell(Check c) {
        c.mine("seam 3 by 3;grade 1 0 9;grade 0 1 8;spoils depth*3+shift;");
        c.x.shifts(1);
        c.due("row 0", c.x.cell(1, 0, 0), 9);
        c.due("row 1", c.x.cell(0, 1, 0), 5);
        c.x.shifts(1);
        c.due("row 0, shift 1", c.x.cell(1, 0, 0), 8);
        c.due("row 1, shift 1", c.x.cell(0, 1, 0), 1);
        c.mine("seam 3 by 3;grade 1 0 9;grade 0 1 4;spoils grade/2;");
        c.x.shifts(1);
        c.due("half of 9", c.x.cell(1, 0, 0), 5);
        c.due("half of 4", c.x.cell(0, 1, 0), 2);
        c.mine("seam 3 by 3;grade 1 0 9;spoils if(shift=998,2,0);");
        c.at(998);
        c.x.shifts(1);
        c.due("the last shift", c.x.cell(1, 0, 0), 7);
    }
}
