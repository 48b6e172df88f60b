import java.util.function.IntSupplier;

/** The edges that the document names for acts, the seed, what is kept, refusals: promises 23 to 31, 35. */
public final class EdgesActsTest {
    private static final String DIGS = "seam 3 by 4;quake 100;miner a;miner b;dig a at 0 1;dig b at 0 2;dig a at 1 0;"
        + "order o grade 4 tubs 1 pays 7;order p grade 9 tubs 1 pays 8;order q grade 0 tubs 2 pays 3;";

    public static void main(String[] args) {
        Edges.run(EdgesActsTest.class);
    }

    /** Four shifts went by, a curtain hangs in (0, 1), a is hurt, something is felt, five acts can be undone. */
    private static void live(Check c) {
        c.mine(DIGS + "falls shift=3;");
        c.x.shifts(2);
        c.x.seed(99);
        c.x.hang(0, 1, 1);
        c.x.send(0, 0, 1, 1);
        c.x.shifts(2);
        c.x.sell(0);
        c.put(1, 2, 2, 5);
        c.x.feel();
    }

    private static void refused(Check c, String what, int group, IntSupplier call) {
        live(c);
        c.refused(what, group, call);
    }

    @Says("How many there are")
    static void theLivingMine(Check c) {
        live(c);
        c.dueAll("has", c.has(), 3, 4, 2, 3, 3, 4, 4, 2, 1, 1, 2, 7, 39, 4, 1, 5, 99);
    }

    // ---- shifts, chance

    @Says("n SHIFTS go by (1 .. 40), without DRAWS")
    static void shiftsFrom1To40(Check c) {
        c.mine("seam 3 by 3;quake 100;miner a;dig a at 0 1;");
        c.due("1", c.x.shifts(1), 1);
        c.due("40", c.x.shifts(40), 0);
        c.due("the shift", c.x.has(5), 41);
        c.due("the seed", c.x.has(16), 1);
        c.due("two acts", c.x.has(15), 2);
        for (int n : new int[] {0, -1, 41, 42, Integer.MAX_VALUE, Integer.MIN_VALUE}) {
            refused(c, "shifts(" + n + ")", 2, () -> c.x.shifts(n));
        }
    }

    @Says("how many tubs were got (those that are lost, too)")
    static void tubsGot(Check c) {
        c.mine("seam 3 by 3;spoils 0;miner a;miner b;dig a at 0 1;dig a at 0 1;dig b at 0 2;dig a at 1 0;falls shift=2;");
        c.change(c.tubsByte(5), 98);
        c.due("got, open, fell, lost", c.x.shifts(4), 2);
        c.due("tubs", c.x.tubs(5), 99);
    }

    @Says("NONE, refused (2), when it can't be (beyond SHIFT 999, without a seam)")
    static void shiftsNotBeyond999(Check c) {
        c.refused("shifts(1) without a seam", 2, () -> c.x.shifts(1));
        c.fresh();
        c.refused("chance(1) without a seam", 2, () -> c.x.chance(1));
        c.mine("seam 3 by 3;");
        c.at(959);
        c.due("40 to 999", c.x.shifts(40), 0);
        c.due("999", c.x.has(5), 999);
        c.refused("shifts(1) at 999", 2, () -> c.x.shifts(1));
        c.refused("chance(1) at 999", 2, () -> c.x.chance(1));
        c.mine("seam 3 by 3;");
        c.at(960);
        c.refused("shifts(40) at 960", 2, () -> c.x.shifts(40));
        c.refused("chance(40) at 960", 2, () -> c.x.chance(40));
        c.due("chance(39) at 960", c.x.chance(39), 0);
        c.due("999", c.x.has(5), 999);
        c.x.undo();
        c.due("shifts(39) at 960", c.x.shifts(39), 0);
    }

    @Says("n SHIFTS by the seed (1 .. 40), one ACT")
    static void chanceFrom1To40(Check c) {
        c.mine("seam 3 by 3;");
        c.due("1", c.x.chance(1), 0);
        c.due("40", c.x.chance(40), 0);
        c.due("the shift", c.x.has(5), 41);
        c.due("a draw each", c.x.has(16), Draws.behind(1, 41));
        c.due("two acts", c.x.has(15), 2);
        c.x.undo();
        c.due("40 are undone at once", c.x.has(5), 1);
        for (int n : new int[] {0, -1, 41, 42, Integer.MAX_VALUE, Integer.MIN_VALUE}) {
            refused(c, "chance(" + n + ")", 2, () -> c.x.chance(n));
        }
    }

    @Says("BY THE SEED a SHIFT begins with a DRAW of 100: below quake a DRAW of the columns, a DRAW of the rows")
    static void belowQuake(Check c) {
        for (int quake : new int[] {0, 1, 40, 99, 100}) {
            int below = 0;
            for (int seed = 0; below < 3 && seed < 400; seed++) {
                int drawn = Draws.of(seed, 100)[0];
                if (drawn < quake - 1 || drawn > quake) {
                    continue;
                }
                below++;
                c.mine("seam 4 by 7;quake " + quake + ";");
                c.x.seed(seed);
                c.x.chance(1);
                c.due("draws of " + drawn + " by quake " + quake, c.x.has(16), Draws.behind(seed, drawn < quake ? 3 : 1));
            }
            c.due("some were drawn by quake " + quake, below > 0, true);
        }
    }

    @Says("that CELL, if it is OPEN and not the shaft's, is SOLID again, its GRADE 0, without a curtain")
    static void aQuakeAtEachCell(Check c) {
        boolean[] seen = new boolean[12];
        for (int seed = 0; seed < 400; seed++) {
            int[] draws = Draws.of(seed, 100, 4, 3);
            int cell = 4 * draws[2] + draws[1];
            if (seen[cell]) {
                continue;
            }
            seen[cell] = true;
            int closed = draws[1] == 2 && draws[2] == 0 ? 0 : 1;
            c.mine("seam 4 by 3;quake 100;shaft 2;reach 0;spoils 0;");
            int[] changes = new int[24];
            for (int k = 0; k < 12; k++) {
                changes[2 * k] = 5 + k;
                changes[2 * k + 1] = k == 2 ? 255 : 254;
            }
            c.change(changes);
            c.x.seed(seed);
            c.due("closed", c.x.chance(1), closed);
            c.due("open cells", c.x.has(6), 12 - closed);
            c.due("curtains", c.x.has(8), 11 - closed);
            c.due("that cell's grade", c.x.cell(draws[1], draws[2], 0), closed - 1);
            c.due("that cell's curtain", c.x.cell(draws[1], draws[2], 3), 0);
            c.x.seed(seed);
            c.due("solid already", c.x.chance(1), 0);
            c.due("open cells still", c.x.has(6), 12 - closed);
        }
        for (int cell = 0; cell < 12; cell++) {
            c.due("a quake at " + cell, seen[cell], true);
        }
    }

    @Says("how many CELLS a quake made SOLID")
    static void cellsMadeSolid(Check c) {
        c.mine("seam 3 by 3;quake 100;spoils 0;");
        c.open(1, 0, 2, 0, 0, 1, 1, 1, 2, 1, 0, 2, 1, 2, 2, 2);
        boolean[] solid = new boolean[9];
        int count = 0;
        int x = 7;
        for (int k = 0; k < 40; k++) {
            int[] draws = Draws.of(x, 100, 3, 3);
            int cell = 3 * draws[2] + draws[1];
            if (cell != 0 && !solid[cell]) {
                solid[cell] = true;
                count++;
            }
            x = Draws.behind(x, 3);
        }
        c.x.seed(7);
        c.due("each once", c.x.chance(40), count);
        c.due("open are", c.x.has(6), 9 - count);
        c.due("the seed", c.x.has(16), x);
    }

    @Says("A SHIFT: FIRST the row of the PLAN")
    static void aQuakeComesAheadOfTheDigging(Check c) {
        for (int seed = 0; seed < 400; seed++) {
            int[] draws = Draws.of(seed, 100, 3, 3);
            if (draws[1] != 0 || draws[2] != 1) {
                continue;
            }
            // (0, 1) is open and closed by the quake: it is dug again as a cell of grade 0
            c.mine("seam 3 by 3;quake 100;miner a;dig a at 0 1;");
            c.change(c.cellByte(0, 1), 254);
            c.x.seed(seed);
            c.due("closed", c.x.chance(1), 1);
            c.due("dug again", c.x.cell(0, 1, 1), 1);
            c.due("without a curtain", c.x.cell(0, 1, 3), 0);
            c.due("grade 0", c.x.kept(0, 3), 0);
            // it is the way to (0, 2), which is not dug then
            c.mine("seam 3 by 3;quake 100;miner a;dig a at 0 2;");
            c.open(0, 1);
            c.x.seed(seed);
            c.due("closed", c.x.chance(1), 1);
            c.due("nothing is dug", c.x.has(13), 0);
            c.due("it is dark", c.x.has(7), 1);
            c.due("and spoiled no more", c.x.cell(1, 1, 0), 5);
            return;
        }
        c.due("a seed was found", false, true);
    }

    // ---- hang, send, heal, sell

    @Says("false, refused (3), when it is so already, the CELL is not OPEN, or the shaft's, there is none such, or for others")
    static void hangRefused(Check c) {
        c.refused("hang(0, 0, 1) without a seam", 3, () -> c.x.hang(0, 0, 1));
        int[][] wrong = {{0, 1, 1}, {0, 2, 0}, {1, 1, 1}, {1, 1, 0}, {0, 0, 1}, {0, 0, 0}, {2, 3, 1},
            {3, 0, 1}, {-1, 1, 1}, {0, 4, 1}, {0, -1, 1}, {Integer.MAX_VALUE, 0, 1}, {0, Integer.MIN_VALUE, 1},
            {0, 2, 2}, {0, 2, -1}, {0, 1, 2}, {0, 1, -1}, {0, 2, Integer.MAX_VALUE}, {0, 2, Integer.MIN_VALUE}};
        for (int[] w : wrong) {
            live(c);
            c.refused("hang(" + w[0] + ", " + w[1] + ", " + w[2] + ")", 3, () -> c.x.hang(w[0], w[1], w[2]));
        }
        live(c);
        c.due("hung", c.x.hang(0, 2, 1), true);
        c.due("taken down", c.x.hang(0, 2, 0), true);
        c.due("the other one, too", c.x.hang(0, 1, 0), true);
        c.due("acts", c.x.has(15), 8);
        c.due("curtains", c.x.has(8), 0);
    }

    @Says("false, refused (3), when it is that, or there are none such")
    static void sendRefused(Check c) {
        c.refused("send(0, 0, 0, 0) without a seam", 3, () -> c.x.send(0, 0, 0, 0));
        int[][] wrong = {{0, 0, 1, 1}, {1, 1, 0, 2}, {-1, 0, 0, 0}, {3, 0, 0, 0}, {Integer.MAX_VALUE, 0, 0, 0},
            {Integer.MIN_VALUE, 0, 0, 0}, {0, -1, 0, 0}, {0, 2, 0, 0}, {0, Integer.MAX_VALUE, 0, 0}, {0, 0, -1, 0},
            {0, 0, 3, 0}, {0, 0, Integer.MIN_VALUE, 0}, {0, 0, 0, -1}, {0, 0, 0, 4}, {0, 0, 0, Integer.MAX_VALUE}};
        for (int[] w : wrong) {
            live(c);
            c.refused("send(" + w[0] + ", " + w[1] + ", " + w[2] + ", " + w[3] + ")", 3,
                () -> c.x.send(w[0], w[1], w[2], w[3]));
        }
        live(c);
        c.due("another miner", c.x.send(0, 1, 1, 1), true);
        c.due("another column", c.x.send(0, 1, 2, 1), true);
        c.due("another row", c.x.send(0, 1, 2, 3), true);
        c.due("the last row of the plan", c.x.send(2, 1, 0, 0), true);
        c.due("acts", c.x.has(15), 9);
    }

    @Says("false, refused (3), when he is not HURT, or there is none such")
    static void healRefused(Check c) {
        c.refused("heal(0) without a seam", 3, () -> c.x.heal(0));
        // shift 3 is of the plan's row 0: a is hurt, b is not
        for (int miner : new int[] {1, 2, -1, Integer.MAX_VALUE, Integer.MIN_VALUE}) {
            live(c);
            c.refused("heal(" + miner + ")", 3, () -> c.x.heal(miner));
        }
        live(c);
        c.due("healed", c.x.heal(0), true);
        c.due("not hurt", c.x.hurt(0), 0);
        c.refused("heal(0) again", 3, () -> c.x.heal(0));
        c.mine("seam 3 by 3;miner a;miner b;miner c;miner d;miner e;miner f;dig f at 0 1;falls all;");
        c.x.shifts(1);
        c.due("the sixth", c.x.heal(5), true);
    }

    @Says("NONE, refused (3), when it can't be, or there is none such")
    static void sellRefused(Check c) {
        c.refused("sell(0) without a seam", 3, () -> c.x.sell(0));
        for (int order : new int[] {0, 1, 3, -1, Integer.MAX_VALUE, Integer.MIN_VALUE}) {
            live(c);
            c.refused("sell(" + order + ")", 3, () -> c.x.sell(order));
        }
        live(c);
        c.due("sold", c.x.sell(2), 10);
    }

    @Says("as many tubs as it wants, of its GRADE or more, the lowest first, what it pays in the purse (99999 at most); each ORDER once")
    static void soldOnce(Check c) {
        c.mine("seam 3 by 3;order a grade 3 tubs 9 pays 999;order b grade 0 tubs 1 pays 0;");
        c.change(c.tubsByte(2), 9, c.tubsByte(3), 4, c.tubsByte(6), 4, c.tubsByte(9), 2);
        c.due("sold", c.x.sell(0), 999);
        int[] left = {0, 0, 9, 0, 0, 0, 0, 0, 0, 1};
        for (int grade = 0; grade < 10; grade++) {
            c.due("left of " + grade, c.x.tubs(grade), left[grade]);
        }
        c.due("for nothing", c.x.sell(1), 999);
        c.due("the lowest first", c.x.tubs(2), 8);
        c.change(c.tubsByte(9), 99);
        c.refused("a second time", 3, () -> c.x.sell(0));
        c.mine("seam 3 by 3;order a grade 3 tubs 9 pays 999;");
        c.change(c.tubsByte(3), 9);
        c.due("just enough", c.x.sell(0), 999);
        c.due("none is left", c.x.has(10), 0);
        c.mine("seam 3 by 3;order a grade 3 tubs 9 pays 999;");
        c.change(c.tubsByte(3), 8, c.tubsByte(2), 99);
        c.refused("one is lacking", 3, () -> c.x.sell(0));
    }

    @Says("what it pays in the purse (99999 at most)")
    static void purse99999AtMost(Check c) {
        int[][] all = {{98999, 99998}, {99000, 99999}, {99001, 99999}, {99999, 99999}};
        for (int[] one : all) {
            c.mine("seam 3 by 3;order a grade 0 tubs 1 pays 999;");
            c.change(c.tubsByte(9), 1, 2, one[0] >> 16, 3, one[0] >> 8 & 255, 4, one[0] & 255);
            c.due("ahead", c.x.has(11), one[0]);
            c.due("sold", c.x.sell(0), one[1]);
            c.due("behind", c.x.has(11), one[1]);
            c.due("it is sold", c.x.order(0, 3), 1);
            c.x.undo();
            c.due("undone", c.x.has(11), one[0]);
        }
    }

    // ---- undo, seed, kept

    @Says("false, refused (4), when none can be")
    static void undoRefused(Check c) {
        c.refused("undo() without a seam", 4, () -> c.x.undo());
        c.mine(DIGS);
        c.refused("undo() without an act", 4, () -> c.x.undo());
        c.x.shifts(1);
        c.due("one", c.x.undo(), true);
        c.refused("undo() of none that is left", 4, () -> c.x.undo());
        c.mine(DIGS);
        c.x.shifts(1);
        c.put(c.image());
        c.x.on();
        c.refused("undo() behind on()", 4, () -> c.x.undo());
    }

    @Says("The last 20 can be undone")
    static void twentyUndone(Check c) {
        c.mine("seam 3 by 3;");
        for (int k = 1; k <= 25; k++) {
            c.x.shifts(1);
            c.due("acts", c.x.has(15), Math.min(20, k));
        }
        for (int k = 1; k <= 20; k++) {
            c.due("undone", c.x.undo(), true);
            c.due("the shift", c.x.has(5), 25 - k);
            c.due("acts left", c.x.has(15), 20 - k);
        }
        c.refused("the 21st", 4, () -> c.x.undo());
        c.due("the shift", c.x.has(5), 5);
        for (int k = 1; k <= 30; k++) {
            c.x.shifts(2);
        }
        c.due("20 again", c.x.has(15), 20);
        for (int k = 0; k < 20; k++) {
            c.x.undo();
        }
        c.due("as it was ahead of the last 20", c.x.has(5), 25);
    }

    @Says("The last 20 can be undone")
    static void undoneAndDoneAgain(Check c) {
        c.mine("seam 3 by 3;");
        for (int k = 0; k < 20; k++) {
            c.x.shifts(1);
        }
        for (int k = 0; k < 10; k++) {
            c.x.undo();
        }
        for (int k = 0; k < 15; k++) {
            c.x.shifts(3);
        }
        c.due("20 of 25", c.x.has(15), 20);
        for (int k = 0; k < 15; k++) {
            c.x.undo();
        }
        c.due("the later ones", c.x.has(5), 10);
        for (int k = 0; k < 5; k++) {
            c.x.undo();
        }
        c.due("the earlier ones", c.x.has(5), 5);
        c.due("no more", c.x.undo(), false);
    }

    @Says("all that ACTS change is as it was ahead of it (but the seed)")
    static void allButTheSeed(Check c) {
        live(c);
        for (int seed = 1; seed < 1000; seed++) {
            int[] draws = Draws.of(seed, 100, 3, 4);
            if (draws[1] == 0 && draws[2] == 2) {
                c.x.seed(seed);
                break;
            }
        }
        int[] has = c.has();
        int[] image = c.image();
        int[] kept = c.kept();
        c.due("a quake", c.x.chance(5) > 0, true);
        int seed = c.x.has(16);
        c.due("undone", c.x.undo(), true);
        has[16] = seed;
        c.dueAll("has", c.has(), has);
        c.dueAll("the image", c.image(), image);
        c.dueAll("kept", c.kept(), kept);
    }

    @Says("all that ACTS change is as it was ahead of it")
    static void eachKindIsUndone(Check c) {
        for (int kind = 0; kind < 7; kind++) {
            live(c);
            int[] has = c.has();
            int[] image = c.image();
            int[] kept = c.kept();
            act(c, kind);
            c.due("acts, kind " + kind, c.x.has(15), 6);
            c.due("undone, kind " + kind, c.x.undo(), true);
            has[16] = c.x.has(16);
            c.dueAll("has, kind " + kind, c.has(), has);
            c.dueAll("the image, kind " + kind, c.image(), image);
            c.dueAll("kept, kind " + kind, c.kept(), kept);
        }
    }

    private static void act(Check c, int kind) {
        switch (kind) {
            case 0: c.x.shifts(40); break;
            case 1: c.x.chance(40); break;
            case 2: c.x.hang(0, 2, 1); break;
            case 3: c.x.hang(0, 1, 0); break;
            case 4: c.x.send(2, 1, 2, 3); break;
            case 5: c.x.heal(0); break;
            default: c.x.sell(2);
        }
    }

    @Says("The seed: true; false, refused (5), when it is below 0")
    static void seedFrom0(Check c) {
        for (int seed : new int[] {0, 1, 63, 64, Integer.MAX_VALUE - 1, Integer.MAX_VALUE}) {
            c.due("seed(" + seed + ")", c.x.seed(seed), true);
            c.due("is it", c.x.has(16), seed);
        }
        c.due("no act", c.x.has(15), 0);
        for (int seed : new int[] {-1, -2, Integer.MIN_VALUE + 1, Integer.MIN_VALUE}) {
            refused(c, "seed(" + seed + ")", 5, () -> c.x.seed(seed) ? 1 : -1);
        }
    }

    @Says("x (the seed) becomes (1103515245 x + 12345) mod 2 to the 31; floor(x / 64) mod m")
    static void drawsGoAround(Check c) {
        int[][] all = {{0, 12345}, {1, 1103527590}, {2, 59559187}, {Integer.MAX_VALUE, 1043980748}, {1 << 30, 1073754169}};
        for (int[] one : all) {
            c.mine("seam 3 by 3;");
            c.x.seed(one[0]);
            c.x.chance(1);
            c.due("behind a draw of " + one[0], c.x.has(16), one[1]);
        }
        // 12345 / 64 is 192: 92 of 100
        c.mine("seam 3 by 3;quake 93;");
        c.x.seed(0);
        c.x.chance(1);
        c.due("92 is below 93", c.x.has(16), Draws.behind(0, 3));
        c.mine("seam 3 by 3;quake 92;");
        c.x.seed(0);
        c.x.chance(1);
        c.due("92 is not below 92", c.x.has(16), 12345);
    }

    @Says("(NONE: it FELL; the last 40 are told)")
    static void fortyKept(Check c) {
        StringBuilder rows = new StringBuilder();
        for (int k = 1; k <= 16; k++) {
            rows.append("dig a at ").append(k % 7).append(' ').append(k / 7).append(';');
        }
        c.mine("seam 7 by 7;spoils 0;miner a;" + rows);
        int dug = 0;
        while (dug < 48) {
            c.x.shifts(8);
            dug += 8;
            c.due("kept of " + dug, c.x.has(13), Math.min(40, dug));
            c.due("the oldest of " + dug, c.x.kept(0, 0), Math.max(0, dug - 40));
            c.due("the newest of " + dug, c.x.kept(Math.min(40, dug) - 1, 0), dug - 1);
            c.due("none behind it", c.x.kept(Math.min(40, dug), 0), -1);
            for (int k = dug + 1; k <= dug + 8 && dug >= 16 && k < 49; k++) {
                c.x.send((k - 1) % 16, 0, k % 7, k / 7);
            }
        }
        for (int k = 0; k < 40; k++) {
            c.due("shift of row " + k, c.x.kept(k, 0), k + 8);
            c.due("cell of row " + k, c.x.kept(k, 2), 8 * ((k + 9) / 7) + (k + 9) % 7);
        }
        c.due("the 40th", c.x.kept(39, 2), 8 * 6 + 6);
        c.due("no 41st", c.x.kept(40, 2), -1);
        c.x.undo();
        c.due("undone", c.x.has(13), 40);
        c.due("the oldest again", c.x.kept(0, 0), 0);
        c.due("the newest again", c.x.kept(39, 0), 39);
    }

    @Says("the k-th from the oldest on: 0 SHIFT, 1 MINER, 2 CELL, 3 the GRADE (NONE). NONE when there is none such, or for others")
    static void keptNoneSuch(Check c) {
        for (int what = 0; what < 4; what++) {
            c.due("without a seam", c.x.kept(0, what), -1);
        }
        live(c);
        c.dueAll("kept", c.kept(), 0, 0, 8, 5, 1, 1, 16, 4, 2, 0, 1, 3, 3, 0, 9, -1);
        for (int what = 0; what < 4; what++) {
            for (int k : EdgesMineTest.outside(4)) {
                c.due("row " + k, c.x.kept(k, what), -1);
            }
        }
        for (int what : EdgesMineTest.outside(4)) {
            c.due("what " + what, c.x.kept(0, what), -1);
        }
        // the last cell of the greatest seam
        c.mine("seam 7 by 7;miner a;miner b;dig b at 6 6;gets 9;");
        c.open(6, 5);
        c.at(998);
        c.x.shifts(1);
        c.dueAll("kept", c.kept(), 998, 1, 54, 9);
    }

    // ---- refusals

    @Says("How many were refused: 0 feed(), end(); 1 mine(); 2 shifts(), chance(); 3 hang(), send(), heal(), sell(); 4 undo(); 5 seed(), feel(), on()")
    static void eachRefusalInItsPlace(Check c) {
        c.dueAll("none", c.status(), 0, 0, 0, 0, 0, 0);
        c.x.end(1);
        c.dueAll("end", c.status(), 1, 0, 0, 0, 0, 0);
        c.x.mine();
        c.dueAll("mine", c.status(), 1, 1, 0, 0, 0, 0);
        c.x.shifts(1);
        c.dueAll("shifts", c.status(), 1, 1, 1, 0, 0, 0);
        c.x.chance(1);
        c.dueAll("chance", c.status(), 1, 1, 2, 0, 0, 0);
        c.x.hang(0, 0, 0);
        c.dueAll("hang", c.status(), 1, 1, 2, 1, 0, 0);
        c.x.send(0, 0, 0, 0);
        c.dueAll("send", c.status(), 1, 1, 2, 2, 0, 0);
        c.x.heal(0);
        c.dueAll("heal", c.status(), 1, 1, 2, 3, 0, 0);
        c.x.sell(0);
        c.dueAll("sell", c.status(), 1, 1, 2, 4, 0, 0);
        c.x.undo();
        c.dueAll("undo", c.status(), 1, 1, 2, 4, 1, 0);
        c.x.seed(-1);
        c.dueAll("seed", c.status(), 1, 1, 2, 4, 1, 1);
        c.x.feel();
        c.dueAll("feel", c.status(), 1, 1, 2, 4, 1, 2);
        c.x.on();
        c.dueAll("on", c.status(), 1, 1, 2, 4, 1, 3);
        c.putText(" ".repeat(1600));
        c.x.feed(0, 0, 0, 0, 0);
        c.dueAll("feed", c.status(), 2, 1, 2, 4, 1, 3);
    }

    @Says("NONE for others")
    static void statusNoneSuch(Check c) {
        for (int what : EdgesMineTest.outside(6)) {
            c.due("status(" + what + ")", c.x.status(what), -1);
        }
    }

    @Says("How many were refused")
    static void askingIsNeverRefused(Check c) {
        for (int round = 0; round < 2; round++) {
            int[] status = c.status();
            for (int no : new int[] {-1, Integer.MAX_VALUE, Integer.MIN_VALUE}) {
                c.x.fault(no);
                c.x.has(no);
                c.x.letter(no, no, no);
                c.x.cell(no, no, no);
                c.x.hurt(no);
                c.x.plan(no, no);
                c.x.order(no, no);
                c.x.tubs(no);
                c.x.later(no, no, no);
                c.x.opens(no, no);
                c.x.worth(no);
                c.x.shade(no, no);
                c.x.change(no, no);
                c.x.sale(no);
                c.x.odds(no, no);
                c.x.tells(no);
                c.x.kept(no, no);
                c.x.octet(no);
                c.x.status(no);
            }
            c.x.reaches();
            c.x.image();
            c.dueAll("nothing is counted", c.status(), status);
            live(c);
        }
    }

    @Says("an ORDER is sold")
    static void actsLeaveTheTape(Check c) {
        live(c);
        c.putText("seam 3 by 3;");
        c.x.shifts(1);
        c.x.chance(1);
        c.x.hang(0, 2, 1);
        c.x.send(2, 1, 2, 3);
        c.x.heal(0);
        c.x.sell(1);
        c.x.undo();
        c.x.seed(5);
        c.x.image();
        c.x.reaches();
        c.x.tells(0);
        c.x.shade(1, 0);
        c.due("its bytes are there", c.x.end(12), true);
        c.due("as they were", c.x.mine(), 1);
    }
}
