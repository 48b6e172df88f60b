/** Promises 23 to 31 and 35: shifts, chance, hang, send, heal, sell, undo, seed, kept, status. */
public final class ActsTest {
    private static final String MINE = "seam 3 by 3;miner a;miner b;dig a at 0 1;dig b at 0 2;dig a at 1 1;";
    private static final Check CHECK = new Check();

    public static void main(String[] args) {
        shifts();
        falls();
        fullTubs();
        chance();
        chanceDraws();
        hang();
        send();
        heal();
        sell();
        undo();
        undoAll();
        seed();
        kept();
        keptAtMost();
        status();
        CHECK.end();
    }

    private static void on(int... bytes) {
        CHECK.put(Check.summed(bytes));
        CHECK.due("on()", CHECK.x.on(), true);
    }

    private static void shifts() {
        CHECK.mine(MINE);
        CHECK.due("one shift", CHECK.x.shifts(1), 1);
        CHECK.due("two shifts", CHECK.x.shifts(2), 2);
        CHECK.due("nothing to dig", CHECK.x.shifts(40), 0);
        CHECK.due("the shift", CHECK.x.has(5), 43);
        CHECK.due("acts", CHECK.x.has(15), 3);
        CHECK.due("the seed", CHECK.x.has(16), 1);
        CHECK.due("no shifts", CHECK.x.shifts(0), -1);
        CHECK.due("below 0", CHECK.x.shifts(-1), -1);
        CHECK.due("above 40", CHECK.x.shifts(41), -1);
        CHECK.due("refused", CHECK.x.status(2), 3);
        CHECK.at(990);
        CHECK.due("beyond 999", CHECK.x.shifts(10), -1);
        CHECK.due("to 999", CHECK.x.shifts(9), 0);
        CHECK.due("the last shift", CHECK.x.has(5), 999);
        CHECK.due("behind the last", CHECK.x.shifts(1), -1);
        CHECK.fresh();
        CHECK.due("without a seam", CHECK.x.shifts(1), -1);
        CHECK.due("refused without a seam", CHECK.x.status(2), 1);
        CHECK.mine("seam 3 by 3;");
        CHECK.due("without a plan", CHECK.x.shifts(2), 0);
        CHECK.due("light without a plan", CHECK.x.cell(1, 0, 0), 3);
        CHECK.mine("seam 3 by 3;quake 100;miner a;dig a at 0 1;dig a at 2 2;");
        CHECK.x.shifts(40);
        CHECK.due("without quakes", CHECK.x.has(6), 2);
        CHECK.due("without draws", CHECK.x.has(16), 1);
    }

    private static void falls() {
        CHECK.mine(MINE + "falls shift=0 or shift=4;");
        CHECK.due("it fell", CHECK.x.shifts(1), 0);
        CHECK.due("solid", CHECK.x.cell(0, 1, 1), 0);
        CHECK.due("grade 0", CHECK.x.cell(0, 1, 0), 0);
        CHECK.due("hurt", CHECK.x.hurt(0), 1);
        CHECK.due("not the other", CHECK.x.hurt(1), 0);
        CHECK.due("no tub", CHECK.x.has(10), 0);
        CHECK.due("kept", CHECK.x.has(13), 1);
        CHECK.x.send(0, 1, 0, 1);
        CHECK.due("who is hurt digs not, the other does", CHECK.x.shifts(3), 1);
        CHECK.due("a tub of grade 0", CHECK.x.tubs(0), 1);
        CHECK.due("the other falls", CHECK.x.shifts(1), 0);
        CHECK.due("hurt are", CHECK.x.has(9), 2);
        CHECK.mine("seam 3 by 3;reach 0;miner a;dig a at 0 1;dig a at 0 2;falls shift=1;");
        CHECK.x.shifts(2);
        CHECK.due("grade 0 in the dark", CHECK.x.cell(0, 2, 0), 0);
    }

    private static void fullTubs() {
        CHECK.mine(MINE);
        int[] bytes = CHECK.image();
        bytes[bytes.length - 6] = 99;
        bytes[bytes.length - 7] = 98;
        on(bytes);
        CHECK.due("99 tubs", CHECK.x.tubs(5), 99);
        CHECK.due("one is lost", CHECK.x.shifts(1), 1);
        CHECK.due("99 at most", CHECK.x.tubs(5), 99);
        CHECK.due("kept all the same", CHECK.x.kept(0, 3), 5);
        CHECK.due("the 99th", CHECK.x.shifts(1), 1);
        CHECK.due("is not lost", CHECK.x.tubs(4), 99);
    }

    private static void chance() {
        CHECK.fresh();
        CHECK.due("without a seam", CHECK.x.chance(1), -1);
        CHECK.mine("seam 3 by 3;quake 50;miner a;miner b;dig a at 0 1;dig b at 0 2;dig a at 1 1;");
        CHECK.due("none", CHECK.x.chance(0), -1);
        CHECK.due("above 40", CHECK.x.chance(41), -1);
        CHECK.due("refused", CHECK.x.status(2), 2);
        CHECK.due("the seed stays", CHECK.x.has(16), 1);
        CHECK.x.shifts(3);
        CHECK.x.hang(0, 1, 1);
        CHECK.x.seed(2478);
        // 49 is below 50: column 0, row 1; then the plan's row 0 digs it again
        CHECK.due("a quake", CHECK.x.chance(1), 1);
        CHECK.due("the seed", CHECK.x.has(16), 1746716645);
        CHECK.due("dug at once", CHECK.x.cell(0, 1, 1), 1);
        CHECK.due("without its curtain", CHECK.x.cell(0, 1, 3), 0);
        CHECK.due("a tub of grade 0", CHECK.x.tubs(0), 1);
        CHECK.x.seed(2478);
        CHECK.due("another quake", CHECK.x.chance(1), 1);
        CHECK.due("solid", CHECK.x.cell(0, 1, 0), 0);
        CHECK.x.seed(2478);
        CHECK.due("solid already", CHECK.x.chance(1), 0);
        CHECK.x.seed(1398);
        CHECK.due("the shaft's", CHECK.x.chance(1), 0);
        CHECK.due("stays open", CHECK.x.cell(0, 0, 1), 1);
        CHECK.due("three draws", CHECK.x.has(16), 1437117517);
        CHECK.at(960);
        CHECK.due("beyond 999", CHECK.x.chance(40), -1);
        CHECK.due("to 999", CHECK.x.chance(39) >= 0, true);
        CHECK.due("the shift", CHECK.x.has(5), 999);
        CHECK.due("one act", CHECK.x.has(15), 1);
    }

    private static void chanceDraws() {
        CHECK.mine("seam 3 by 3;quake 49;miner a;dig a at 0 1;dig a at 2 2;");
        CHECK.x.shifts(1);
        CHECK.x.seed(2478);
        CHECK.due("49 is not below 49", CHECK.x.chance(1), 0);
        CHECK.due("one draw", CHECK.x.has(16), (1103515245L * 2478 + 12345) % (1L << 31));
        CHECK.mine("seam 3 by 3;");
        CHECK.due("quake 0", CHECK.x.chance(2), 0);
        CHECK.due("a draw for each shift", CHECK.x.has(16), (1103515245L * 1103527590L + 12345) % (1L << 31));
        // columns first: column 3, row 1 of 4 by 3
        CHECK.mine("seam 4 by 3;quake 50;shaft 3;miner a;dig a at 3 1;dig a at 3 2;");
        CHECK.x.shifts(1);
        CHECK.x.seed(1710);
        CHECK.due("column 3, row 1", CHECK.x.chance(1), 1);
        CHECK.due("the plan's next is cut off", CHECK.x.cell(3, 2, 1), 0);
        CHECK.due("one shift", CHECK.x.has(5), 2);
        CHECK.due("kept", CHECK.x.has(13), 1);
        // what a quake cuts off is dark at once, and grade 0 in the dark too
        CHECK.mine("seam 3 by 3;quake 50;miner a;dig a at 0 1;dig a at 0 2;dig a at 2 0;");
        CHECK.x.shifts(2);
        CHECK.due("beside light", CHECK.x.cell(1, 2, 0), 4);
        CHECK.x.seed(2478);
        CHECK.due("cut off", CHECK.x.chance(1), 1);
        CHECK.due("no light", CHECK.x.cell(1, 2, 0), 4);
        CHECK.due("no way", CHECK.x.cell(0, 2, 4), -1);
        CHECK.mine("seam 3 by 3;quake 50;miner a;dig a at 0 1;dig a at 0 2;dig a at 2 2;dig a at 2 2;");
        CHECK.x.shifts(2);
        CHECK.x.seed(28);
        CHECK.due("cut off in the second shift", CHECK.x.chance(2), 1);
        CHECK.due("light in the first alone", CHECK.x.cell(1, 2, 0), 3);
    }

    private static void hang() {
        CHECK.mine(MINE);
        CHECK.x.shifts(2);
        CHECK.due("hung", CHECK.x.hang(0, 1, 1), true);
        CHECK.due("hung already", CHECK.x.hang(0, 1, 1), false);
        CHECK.due("the shaft's", CHECK.x.hang(0, 0, 1), false);
        CHECK.due("the shaft's has none", CHECK.x.hang(0, 0, 0), false);
        CHECK.due("solid", CHECK.x.hang(1, 0, 1), false);
        CHECK.due("solid has none", CHECK.x.hang(1, 0, 0), false);
        CHECK.due("no curtain", CHECK.x.hang(0, 2, 0), false);
        CHECK.due("on 2", CHECK.x.hang(0, 2, 2), false);
        CHECK.due("on -1", CHECK.x.hang(0, 2, -1), false);
        CHECK.due("none such", CHECK.x.hang(3, 0, 1), false);
        CHECK.due("none below", CHECK.x.hang(0, -1, 1), false);
        CHECK.due("refused", CHECK.x.status(3), 10);
        CHECK.due("it is dark behind it", CHECK.x.has(7), 1);
        CHECK.due("grade beside it", CHECK.x.cell(1, 2, 0), 4);
        CHECK.x.shifts(1);
        CHECK.due("dug in the dark", CHECK.x.cell(1, 1, 1), 1);
        CHECK.due("not spoiled in the dark", CHECK.x.cell(1, 2, 0), 4);
        CHECK.due("spoiled by the shaft", CHECK.x.cell(1, 0, 0), 2);
        CHECK.due("taken down", CHECK.x.hang(0, 1, 0), true);
        CHECK.due("light again", CHECK.x.has(7), 4);
        CHECK.due("acts", CHECK.x.has(15), 4);
        CHECK.fresh();
        CHECK.due("without a seam", CHECK.x.hang(0, 0, 1), false);
    }

    private static void send() {
        CHECK.mine(MINE);
        CHECK.due("as it is", CHECK.x.send(0, 0, 0, 1), false);
        CHECK.due("no row 3", CHECK.x.send(3, 0, 0, 1), false);
        CHECK.due("no row -1", CHECK.x.send(-1, 0, 0, 1), false);
        CHECK.due("no miner 2", CHECK.x.send(0, 2, 0, 1), false);
        CHECK.due("no miner -1", CHECK.x.send(0, -1, 0, 1), false);
        CHECK.due("no column", CHECK.x.send(0, 0, 3, 1), false);
        CHECK.due("no cell's row", CHECK.x.send(0, 0, 0, -1), false);
        CHECK.due("refused", CHECK.x.status(3), 7);
        CHECK.due("another miner", CHECK.x.send(0, 1, 0, 1), true);
        CHECK.due("another cell", CHECK.x.send(0, 1, 1, 0), true);
        CHECK.due("the shaft's cell", CHECK.x.send(1, 1, 0, 0), true);
        CHECK.due("acts", CHECK.x.has(15), 3);
        CHECK.x.shifts(1);
        CHECK.due("who dug", CHECK.x.kept(0, 1), 1);
        CHECK.due("where", CHECK.x.kept(0, 2), 1);
    }

    private static void heal() {
        CHECK.mine(MINE + "falls shift=0;");
        CHECK.due("not hurt", CHECK.x.heal(0), false);
        CHECK.x.shifts(1);
        CHECK.due("the other", CHECK.x.heal(1), false);
        CHECK.due("none such", CHECK.x.heal(2), false);
        CHECK.due("none below", CHECK.x.heal(-1), false);
        CHECK.due("refused", CHECK.x.status(3), 4);
        CHECK.due("healed", CHECK.x.heal(0), true);
        CHECK.due("hurt no more", CHECK.x.hurt(0), 0);
        CHECK.due("acts", CHECK.x.has(15), 2);
        CHECK.due("he digs again", CHECK.x.shifts(3), 1);
    }

    private static void sell() {
        CHECK.mine("seam 3 by 3;order a grade 4 tubs 3 pays 30;order b grade 0 tubs 2 pays 999;order c grade 9 tubs 1 pays 1;");
        int[] bytes = CHECK.image();
        int[] tubs = {1, 0, 0, 5, 1, 0, 1, 0, 3, 0};
        System.arraycopy(tubs, 0, bytes, 17, 10);
        on(bytes);
        CHECK.due("none of grade 9", CHECK.x.sell(2), -1);
        CHECK.due("no order 3", CHECK.x.sell(3), -1);
        CHECK.due("no order -1", CHECK.x.sell(-1), -1);
        CHECK.due("the purse", CHECK.x.sell(0), 30);
        int[] left = {1, 0, 0, 5, 0, 0, 0, 0, 2, 0};
        for (int grade = 0; grade < 10; grade++) {
            CHECK.due("the lowest first, " + grade, CHECK.x.tubs(grade), left[grade]);
        }
        CHECK.due("once", CHECK.x.sell(0), -1);
        CHECK.due("both", CHECK.x.sell(1), 1029);
        CHECK.due("grade 0", CHECK.x.tubs(0), 0);
        CHECK.due("grade 3", CHECK.x.tubs(3), 4);
        CHECK.due("refused", CHECK.x.status(3), 4);
        CHECK.due("acts", CHECK.x.has(15), 2);
        bytes[2] = 1;
        bytes[3] = 99000 / 256 % 256;
        bytes[4] = 99000 % 256;
        bytes[15] = 0;
        on(bytes);
        CHECK.due("99999 at most", CHECK.x.sell(1), 99999);
        CHECK.due("99999 still", CHECK.x.sell(0), 99999);
        bytes[26] = 2;
        on(bytes);
        CHECK.x.sell(2);
        CHECK.due("of grade 9", CHECK.x.tubs(9), 1);
    }

    private static void undo() {
        CHECK.mine(MINE + "falls shift=4;order o grade 0 tubs 1 pays 7;quake 50;");
        CHECK.due("none yet", CHECK.x.undo(), false);
        int[] first = CHECK.image();
        CHECK.x.shifts(3);
        int[] second = CHECK.image();
        CHECK.x.hang(0, 2, 1);
        CHECK.x.seed(2478);
        int[] third = CHECK.image();
        CHECK.x.chance(2);
        int[] fourth = CHECK.image();
        CHECK.due("a quake at a cell that is dug again", CHECK.x.has(13), 4);
        CHECK.x.sell(0);
        int[] fifth = CHECK.image();
        CHECK.x.send(2, 1, 2, 2);
        CHECK.due("acts", CHECK.x.has(15), 5);
        int seed = CHECK.x.has(16);
        int[][] ahead = {fifth, fourth, third, second, first};
        int[] keptAhead = {4, 4, 3, 3, 0};
        for (int k = 0; k < 5; k++) {
            CHECK.due("undone", CHECK.x.undo(), true);
            CHECK.dueAll("as it was, " + k, CHECK.image(), ahead[k]);
            CHECK.due("kept as it was, " + k, CHECK.x.has(13), keptAhead[k]);
            CHECK.due("acts left", CHECK.x.has(15), 4 - k);
        }
        CHECK.due("but the seed", CHECK.x.has(16), seed);
        CHECK.due("none is left", CHECK.x.undo(), false);
        CHECK.due("refused", CHECK.x.status(4), 2);
        CHECK.mine(MINE + "falls all;");
        CHECK.x.shifts(1);
        CHECK.x.heal(0);
        CHECK.x.undo();
        CHECK.due("hurt again", CHECK.x.hurt(0), 1);
    }

    private static void undoAll() {
        CHECK.mine(MINE);
        CHECK.x.shifts(1);
        for (int k = 0; k < 22; k++) {
            CHECK.x.hang(0, 1, 1 - k % 2);
            CHECK.x.hang(0, 1, 2);
        }
        CHECK.due("20 at most", CHECK.x.has(15), 20);
        for (int k = 0; k < 20; k++) {
            CHECK.due("undone " + k, CHECK.x.undo(), true);
            CHECK.due("curtains " + k, CHECK.x.has(8), 1 - k % 2);
        }
        CHECK.due("not the 21st", CHECK.x.undo(), false);
        CHECK.due("the curtain", CHECK.x.has(8), 0);
        CHECK.due("the shift", CHECK.x.has(5), 1);
    }

    private static void seed() {
        CHECK.fresh();
        CHECK.due("0", CHECK.x.seed(0), true);
        CHECK.due("is 0", CHECK.x.has(16), 0);
        CHECK.due("the greatest", CHECK.x.seed(Integer.MAX_VALUE), true);
        CHECK.due("below 0", CHECK.x.seed(-1), false);
        CHECK.due("the least", CHECK.x.seed(Integer.MIN_VALUE), false);
        CHECK.due("stays", CHECK.x.has(16), Integer.MAX_VALUE);
        CHECK.due("refused", CHECK.x.status(5), 2);
        CHECK.mine("seam 3 by 3;");
        CHECK.x.seed(Integer.MAX_VALUE);
        CHECK.x.chance(1);
        CHECK.due("the greatest, drawn", CHECK.x.has(16), (1103515245L * Integer.MAX_VALUE + 12345) % (1L << 31));
        CHECK.due("no act", CHECK.x.has(15), 1);
    }

    private static int[] keptAll(int k) {
        int[] all = new int[4];
        for (int what = 0; what < 4; what++) {
            all[what] = CHECK.x.kept(k, what);
        }
        return all;
    }

    private static void kept() {
        CHECK.mine(MINE + "falls shift=2;");
        CHECK.dueAll("nothing yet", keptAll(0), -1, -1, -1, -1);
        CHECK.x.shifts(4);
        CHECK.dueAll("the oldest", keptAll(0), 0, 0, 8, 5);
        CHECK.dueAll("the next", keptAll(1), 1, 1, 16, 4);
        CHECK.dueAll("it fell", keptAll(2), 2, 0, 9, -1);
        CHECK.dueAll("none such", keptAll(3), -1, -1, -1, -1);
        CHECK.dueAll("none below", keptAll(-1), -1, -1, -1, -1);
        CHECK.due("what 4", CHECK.x.kept(0, 4), -1);
        CHECK.due("what -1", CHECK.x.kept(0, -1), -1);
    }

    /** 48 diggings row by row, sixteen by sixteen. */
    private static void keptAtMost() {
        StringBuilder text = new StringBuilder("seam 7 by 7;miner a;");
        for (int k = 1; k <= 16; k++) {
            text.append("dig a at ").append(k % 7).append(' ').append(k / 7).append(';');
        }
        CHECK.mine(text.toString());
        CHECK.due("sixteen", CHECK.x.shifts(16), 16);
        for (int from = 17; from <= 33; from += 16) {
            for (int k = 0; k < 16; k++) {
                CHECK.x.send(k, 0, (from + k) % 7, (from + k) / 7);
            }
            CHECK.due("sixteen more", CHECK.x.shifts(16), 16);
        }
        CHECK.due("the last 40", CHECK.x.has(13), 40);
        CHECK.due("the oldest's shift", CHECK.x.kept(0, 0), 8);
        CHECK.due("the oldest's cell", CHECK.x.kept(0, 2), 8 * (9 / 7) + 9 % 7);
        CHECK.due("the newest's shift", CHECK.x.kept(39, 0), 47);
        CHECK.due("the newest's cell", CHECK.x.kept(39, 2), 8 * 6 + 6);
        CHECK.x.undo();
        CHECK.due("undone", CHECK.x.has(13), 32);
        CHECK.due("the oldest is back", CHECK.x.kept(0, 0), 0);
        CHECK.due("the newest", CHECK.x.kept(31, 0), 31);
    }

    private static void status() {
        CHECK.fresh();
        CHECK.x.end(-1);
        for (int k = 0; k < 2; k++) {
            CHECK.x.mine();
        }
        CHECK.x.shifts(1);
        CHECK.x.chance(1);
        CHECK.x.shifts(0);
        CHECK.x.hang(0, 0, 1);
        CHECK.x.send(0, 0, 0, 0);
        CHECK.x.heal(0);
        CHECK.x.sell(0);
        for (int k = 0; k < 5; k++) {
            CHECK.x.undo();
        }
        CHECK.x.seed(-1);
        CHECK.x.feel();
        CHECK.x.on();
        for (int k = 0; k < 3; k++) {
            CHECK.x.seed(-1);
        }
        int[] want = {1, 2, 3, 4, 5, 6};
        for (int what = 0; what < 6; what++) {
            CHECK.due("status(" + what + ")", CHECK.x.status(what), want[what]);
        }
        CHECK.due("status(6)", CHECK.x.status(6), -1);
        CHECK.due("status(-1)", CHECK.x.status(-1), -1);
        CHECK.x.has(99);
        CHECK.x.cell(9, 9, 9);
        CHECK.x.later(0, 0, 99);
        CHECK.x.shade(0, 0);
        CHECK.x.status(9);
        CHECK.putText(MINE);
        CHECK.x.mine();
        for (int what = 0; what < 6; what++) {
            CHECK.due("status(" + what + ") stays", CHECK.x.status(what), want[what]);
        }
    }
}
