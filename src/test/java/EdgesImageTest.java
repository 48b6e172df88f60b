import java.util.Arrays;

/** The edges that the document names for images: promises 32 to 34. */
public final class EdgesImageTest {
    private static final String SMALL = "seam 3 by 4;shaft 1;miner a;miner b;dig a at 1 1;order o grade 4 tubs 1 pays 700;";

    public static void main(String[] args) {
        Edges.run(EdgesImageTest.class);
    }

    /** All that a mine can have: 49 cells, 6 miners, 16 rows of the plan, 5 orders. */
    private static String greatest() {
        StringBuilder text = new StringBuilder("seam 7 by 7;shaft 6;");
        for (char name = 'a'; name < 'g'; name++) {
            text.append("miner ").append(name).append(';');
        }
        for (int k = 0; k < 16; k++) {
            text.append("dig ").append((char) ('a' + k % 6)).append(" at ").append(k % 7).append(' ').append(6 - k % 7).append(';');
        }
        for (char name = 'p'; name < 'u'; name++) {
            text.append("order ").append(name).append(" grade 1 tubs 1 pays 1;");
        }
        return text.toString();
    }

    @Says("AN IMAGE is written: how many bytes")
    static void theLongestAndTheShortest(Check c) {
        c.due("without a seam", c.x.image(), 16);
        c.mine("seam 3 by 3;");
        c.due("the shortest of a mine", c.x.image(), 5 + 9 + 10 + 1);
        c.mine(greatest());
        c.due("the longest", c.x.image(), 5 + 49 + 6 + 48 + 5 + 10 + 1);
        int[] due = new int[124];
        Arrays.fill(due, 5, 54, 5);
        due[11] = 255;
        for (int k = 0; k < 16; k++) {
            due[60 + 3 * k] = k % 6;
            due[61 + 3 * k] = k % 7;
            due[62 + 3 * k] = 6 - k % 7;
        }
        c.dueAll("the longest", c.image(), Check.summed(due));
        c.due("none behind the last", c.x.octet(124), -1);
    }

    @Says("SHIFT (two bytes, the higher first), the purse (three bytes)")
    static void numbersOfMoreBytes(Check c) {
        int[] shifts = {0, 1, 255, 256, 511, 512, 998, 999};
        int[] purses = {0, 255, 256, 65279, 65280, 65535, 65536, 99999};
        for (int k = 0; k < shifts.length; k++) {
            int s = shifts[k];
            int p = purses[k];
            c.mine("seam 3 by 3;");
            c.change(0, s / 256, 1, s % 256, 2, p / 65536, 3, p / 256 % 256, 4, p % 256);
            c.due("shift", c.x.has(5), s);
            c.due("purse", c.x.has(11), p);
            int[] image = c.image();
            c.dueAll("the image of shift " + s + ", purse " + p, Arrays.copyOf(image, 5), s / 256, s % 256, p / 65536,
                p / 256 % 256, p % 256);
        }
    }

    @Says("for each CELL, row by row, its GRADE (255: OPEN, 254: OPEN with a curtain); for each MINER 1 if he is HURT, else 0")
    static void partsAtTheirEdges(Check c) {
        c.mine("seam 3 by 3;grade 1 0 9;grade 2 0 0;spoils 0;miner a;miner b;dig a at 0 1;dig b at 0 2;falls shift=1;"
            + "order o grade 0 tubs 1 pays 999;order p grade 0 tubs 1 pays 1;gets 9;");
        c.x.shifts(2);
        c.x.hang(0, 1, 1);
        c.x.sell(0);
        c.dueAll("the image", c.image(), Check.summed(
            0, 2, 0, 3, 231,
            255, 9, 0, 254, 5, 5, 0, 5, 5,
            0, 1,
            0, 0, 1, 1, 0, 2,
            1, 0,
            0, 0, 0, 0, 0, 0, 0, 0, 0, 0,
            0));
    }

    @Says("last a byte: all ahead from 233 on, c = (5 c + it) mod 251")
    static void theLastByte(Check c) {
        // sixteen bytes of which fifteen are 0: 233 times 5 to the 15 mod 251
        int due = 233;
        for (int k = 0; k < 15; k++) {
            due = 5 * due % 251;
        }
        c.x.image();
        c.due("without a seam", c.x.octet(15), due);
        c.mine("seam 3 by 3;");
        for (int tubs = 0; tubs < 8; tubs++) {
            int[] bytes = c.changed(c.tubsByte(9), tubs);
            c.put(bytes);
            c.due("on()", c.x.on(), true);
            c.x.image();
            c.due("the last byte", c.x.octet(24), bytes[24]);
        }
    }

    @Says("Byte k of the latest image(); NONE when there is none such")
    static void octetNoneSuch(Check c) {
        for (int k : EdgesMineTest.outside(0)) {
            c.due("ahead of any image, " + k, c.x.octet(k), -1);
        }
        c.mine(SMALL);
        c.due("not written yet", c.x.octet(0), -1);
        int length = c.x.image();
        c.due("bytes", length, 34);
        for (int k : EdgesMineTest.outside(34)) {
            c.due("byte " + k, c.x.octet(k), -1);
        }
        c.due("the first", c.x.octet(0), 0);
        c.due("the last", c.x.octet(33) >= 0, true);
        c.x.shifts(3);
        c.due("the latest image, not what is now", c.x.octet(1), 0);
        c.x.image();
        c.due("the latest image now", c.x.octet(1), 3);
        // a shorter one leaves nothing of a longer one
        c.putText("seam 3 by 3;");
        c.x.mine();
        c.due("bytes", c.x.image(), 25);
        c.due("byte 24", c.x.octet(24) >= 0, true);
        c.due("byte 25", c.x.octet(25), -1);
    }

    // ---- on()

    /** SHIFT, the purse, cells, hurt, the plan, sold, tubs at their most. */
    private static int[] most() {
        return Check.summed(
            3, 231, 1, 134, 159,
            9, 255, 9, 254, 255, 0, 9, 9, 254, 9, 9, 255,
            1, 1,
            1, 2, 3,
            1,
            99, 99, 99, 99, 99, 99, 99, 99, 99, 99,
            0);
    }

    /** The same at their least. */
    private static int[] least() {
        int[] bytes = new int[34];
        bytes[6] = 255;
        return Check.summed(bytes);
    }

    private static void live(Check c) {
        c.mine(SMALL);
        c.x.seed(31);
        c.put(1, 0, 0, 4);
        c.x.feel();
        c.x.shifts(1);
        c.x.hang(1, 1, 1);
    }

    @Says("true, all is as it tells, nothing is KEPT, no ACT can be undone")
    static void allIsAsItTells(Check c) {
        live(c);
        c.due("kept", c.x.has(13), 1);
        c.put(most());
        c.due("on()", c.x.on(), true);
        c.dueAll("has", c.has(), 3, 4, 2, 1, 1, 999, 5, 2, 2, 2, 990, 99999, 54 + 99 * 45, 0, 1, 0, 31);
        c.dueAll("the image", c.image(), most());
        c.due("nothing is kept", c.x.kept(0, 0), -1);
        c.due("nothing can be undone", c.x.undo(), false);
        c.put(least());
        c.due("on() of the least", c.x.on(), true);
        c.dueAll("has", c.has(), 3, 4, 2, 1, 1, 0, 1, 1, 0, 0, 0, 0, 0, 0, 1, 0, 31);
        c.dueAll("the image", c.image(), least());
    }

    private static void refuse(Check c, String what, int... bytes) {
        live(c);
        c.refused("on(), " + what, 5, () -> {
            c.put(bytes);
            return c.x.on() ? 1 : -1;
        });
        c.due("the tape went, " + what, c.x.end(1), false);
        c.due("undone, " + what, c.x.undo(), true);
    }

    private static void refuseByte(Check c, String what, int at, int octet) {
        int[] bytes = most();
        bytes[at] = octet;
        refuse(c, what, Check.summed(bytes));
    }

    @Says("SHIFT 999, the purse 99999, GRADES 9, tubs 99 at most")
    static void aboveTheMost(Check c) {
        refuseByte(c, "shift 1000", 1, 232);
        refuseByte(c, "shift 1023", 1, 255);
        refuseByte(c, "shift 1255", 0, 4);
        refuseByte(c, "shift 65511", 0, 255);
        refuseByte(c, "purse 100000", 4, 160);
        refuseByte(c, "purse 100255", 3, 135);
        refuseByte(c, "purse 165535", 2, 2);
        refuseByte(c, "the greatest purse", 2, 255);
        for (int octet : new int[] {10, 11, 127, 128, 252, 253}) {
            refuseByte(c, "the first cell " + octet, 5, octet);
            refuseByte(c, "the last cell " + octet, 16, octet);
        }
        for (int grade = 0; grade < 10; grade++) {
            refuseByte(c, "tubs 100 of " + grade, 23 + grade, 100);
        }
        refuseByte(c, "tubs 255", 23, 255);
    }

    @Says("the shaft's CELL 255; flags 0, 1; MINERS, CELLS that there are")
    static void whatCannotBe(Check c) {
        for (int octet : new int[] {0, 5, 9, 10, 253, 254}) {
            refuseByte(c, "the shaft's " + octet, 6, octet);
        }
        for (int octet : new int[] {2, 254, 255}) {
            refuseByte(c, "the first miner " + octet, 17, octet);
            refuseByte(c, "the last miner " + octet, 18, octet);
            refuseByte(c, "the order " + octet, 22, octet);
        }
        refuseByte(c, "miner 2 of the plan", 19, 2);
        refuseByte(c, "miner 255 of the plan", 19, 255);
        refuseByte(c, "column 3 of the plan", 20, 3);
        refuseByte(c, "column 255 of the plan", 20, 255);
        refuseByte(c, "row 4 of the plan", 21, 4);
        refuseByte(c, "row 255 of the plan", 21, 255);
    }

    @Says("if it is none such")
    static void wrongLengthOrSum(Check c) {
        refuse(c, "none");
        refuse(c, "one byte", 0);
        refuse(c, "one is lacking", Arrays.copyOf(most(), 33));
        refuse(c, "one is lacking, summed", Check.summed(Arrays.copyOf(most(), 33)));
        refuse(c, "one too many", Arrays.copyOf(most(), 35));
        refuse(c, "one too many, summed", Check.summed(Arrays.copyOf(most(), 35)));
        refuse(c, "1600 bytes", Arrays.copyOf(most(), 1600));
        for (int more : new int[] {1, 2, 100, 250}) {
            int[] bytes = most();
            bytes[33] = (bytes[33] + more) % 251;
            refuse(c, "the last byte is another one", bytes);
        }
        int[] bytes = most();
        bytes[33] = 255;
        refuse(c, "the last byte is 255", bytes);
        for (int at = 0; at < 33; at++) {
            int[] changed = least();
            changed[at] = changed[at] == 255 ? 254 : changed[at] + 1;
            c.mine(SMALL);
            c.put(changed);
            c.due("a byte more at " + at + ", not summed", c.x.on(), false);
        }
    }

    @Says("the last byte")
    static void aSumBelow5ToldAs251More(Check c) {
        // a last byte of 0 to 4 is not the same as one of 251 to 255
        c.mine(SMALL);
        for (int tubs = 0; tubs < 100; tubs++) {
            int[] bytes = least();
            bytes[31] = tubs;
            bytes = Check.summed(bytes);
            if (bytes[33] < 5) {
                int good = bytes[33];
                bytes[33] = good + 251;
                c.put(bytes);
                c.due("251 more", c.x.on(), false);
                bytes[33] = good;
                c.put(bytes);
                c.due("as it is due", c.x.on(), true);
            }
        }
    }

    @Says("or without a seam")
    static void onWithoutASeam(Check c) {
        int[] bytes = c.image();
        c.refused("on() without a seam", 5, () -> {
            c.put(bytes);
            return c.x.on() ? 1 : -1;
        });
        c.due("the tape went", c.x.end(1), false);
    }

    @Says("is AN IMAGE of this MINE")
    static void ofThisMine(Check c) {
        c.mine(SMALL.replace("shaft 1", "shaft 2"));
        int[] other = c.image();
        refuse(c, "of a mine with another shaft", other);
        c.mine("seam 4 by 3;shaft 1;miner a;miner b;dig a at 1 1;order o grade 4 tubs 1 pays 700;");
        other = c.image();
        live(c);
        c.put(other);
        c.due("the bytes fit this mine as well", c.x.on(), true);
        c.due("row by row of this one", c.x.cell(1, 0, 1), 1);
        c.mine(SMALL + "miner c;");
        other = c.image();
        refuse(c, "of a mine with one more miner", other);
        c.mine("seam 3 by 3;");
        refuse(c, "of a mine with fewer cells", c.image());
    }

    @Says("The tape (it goes, refused or not) is AN IMAGE")
    static void theTapeGoes(Check c) {
        live(c);
        c.put(most());
        c.due("on()", c.x.on(), true);
        c.due("no byte is left", c.x.end(1), false);
        c.due("none is no image", c.x.on(), false);
    }

    @Says("all is as it tells")
    static void itGoesOnFromThere(Check c) {
        c.mine("seam 3 by 3;miner a;miner b;dig a at 0 1;dig b at 1 0;");
        int[] bytes = c.changed(c.planByte(0), 1, c.planByte(0) + 1, 2, c.planByte(0) + 2, 2, c.cellByte(2, 1), 255, 1, 2);
        c.put(bytes);
        c.x.on();
        c.due("by the plan that it tells", c.x.shifts(1), 1);
        c.dueAll("kept", c.kept(), 2, 1, 18, 5);
        c.due("one act", c.x.has(15), 1);
        c.x.undo();
        c.dueAll("undone", c.image(), bytes);
        c.due("not beyond it", c.x.undo(), false);
    }
}
