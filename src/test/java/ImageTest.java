import java.util.Arrays;

/** Promises 32 to 34: image, octet, on. */
public final class ImageTest {
    private static final String MINE = "seam 3 by 4;shaft 1;grade 2 3 9;miner a;miner b;dig a at 1 1;dig b at 2 1;"
        + "order o grade 4 tubs 1 pays 700;order p grade 9 tubs 1 pays 1;";
    private static final Check CHECK = new Check();

    public static void main(String[] args) {
        image();
        octet();
        on();
        refused();
        withoutSeam();
        CHECK.end();
    }

    private static void image() {
        CHECK.mine(MINE + "falls shift=1;");
        CHECK.dueAll("at first", CHECK.image(), Check.summed(
            0, 0, 0, 0, 0,
            5, 255, 5, 5, 5, 5, 5, 5, 5, 5, 5, 9,
            0, 0,
            0, 1, 1, 1, 2, 1,
            0, 0,
            0, 0, 0, 0, 0, 0, 0, 0, 0, 0,
            0));
        CHECK.x.shifts(2);
        CHECK.x.hang(1, 1, 1);
        CHECK.x.sell(0);
        CHECK.x.send(0, 1, 0, 3);
        CHECK.dueAll("behind acts", CHECK.image(), Check.summed(
            0, 2, 0, 2, 188,
            3, 255, 3, 3, 254, 0, 5, 3, 5, 5, 5, 9,
            0, 1,
            1, 0, 3, 1, 2, 1,
            1, 0,
            0, 0, 0, 0, 0, 0, 0, 0, 0, 0,
            0));
        CHECK.due("bytes", CHECK.x.image(), 5 + 12 + 2 + 6 + 2 + 10 + 1);
        CHECK.fresh();
        CHECK.dueAll("without a seam", CHECK.image(), Check.summed(new int[16]));
    }

    private static void octet() {
        CHECK.fresh();
        CHECK.due("no image yet", CHECK.x.octet(0), -1);
        CHECK.mine(MINE);
        CHECK.x.image();
        CHECK.due("a byte", CHECK.x.octet(6), 255);
        CHECK.due("the last", CHECK.x.octet(37) >= 0, true);
        CHECK.due("behind the last", CHECK.x.octet(38), -1);
        CHECK.due("below 0", CHECK.x.octet(-1), -1);
        CHECK.x.shifts(1);
        CHECK.due("of the latest image", CHECK.x.octet(1), 0);
        CHECK.x.image();
        CHECK.due("of the new one", CHECK.x.octet(1), 1);
    }

    private static int[] good() {
        return Check.summed(
            3, 231, 1, 134, 159,
            9, 255, 0, 254, 255, 7, 1, 2, 3, 4, 5, 6,
            1, 0,
            1, 2, 3, 0, 0, 0,
            1, 0,
            99, 0, 1, 2, 3, 4, 5, 6, 7, 99,
            0);
    }

    private static void on() {
        CHECK.mine(MINE);
        CHECK.x.seed(12);
        CHECK.put(1, 0, 0, 5);
        CHECK.x.feel();
        CHECK.x.shifts(2);
        CHECK.put(good());
        CHECK.due("on()", CHECK.x.on(), true);
        CHECK.due("the tape went", CHECK.x.end(1), false);
        CHECK.dueAll("all is as it tells", CHECK.image(), good());
        int[] want = {3, 4, 2, 2, 2, 999, 3, 2, 1, 1, 226, 99999, 1096, 0, 1, 0, 12};
        for (int what = 0; what < 17; what++) {
            CHECK.due("has(" + what + ")", CHECK.x.has(what), want[what]);
        }
        CHECK.due("no undo", CHECK.x.undo(), false);
        CHECK.due("the plan's miner", CHECK.x.plan(0, 0), 1);
        CHECK.due("the plan's column", CHECK.x.plan(0, 1), 2);
        CHECK.due("the plan's row", CHECK.x.plan(0, 2), 3);
        CHECK.due("sold", CHECK.x.order(0, 3), 1);
        CHECK.due("hurt", CHECK.x.hurt(0), 1);
        CHECK.due("a curtain", CHECK.x.cell(0, 1, 3), 1);
    }

    private static void refuse(String what, int at, int octet) {
        int[] bytes = good();
        bytes[at] = octet;
        refuseBytes(what, at == bytes.length - 1 ? bytes : Check.summed(bytes));
    }

    private static void refuseBytes(String what, int[] bytes) {
        CHECK.mine(MINE);
        CHECK.x.shifts(1);
        int[] ahead = CHECK.image();
        int acts = CHECK.x.has(15);
        int refused = CHECK.x.status(5);
        CHECK.put(bytes);
        CHECK.due(what, CHECK.x.on(), false);
        CHECK.due(what + ": the tape went", CHECK.x.end(1), false);
        CHECK.due(what + ": refused", CHECK.x.status(5), refused + 1);
        CHECK.dueAll(what + ": all stays", CHECK.image(), ahead);
        CHECK.due(what + ": acts stay", CHECK.x.has(15), acts);
        CHECK.due(what + ": kept stays", CHECK.x.has(13), acts);
    }

    private static void refused() {
        refuse("shift 1000", 1, 232);
        refuse("shift above", 0, 4);
        refuse("purse 100000", 4, 160);
        refuse("purse above", 2, 2);
        refuse("grade 10", 5, 10);
        refuse("grade 253", 16, 253);
        refuse("the shaft's solid", 6, 5);
        refuse("the shaft's curtain", 6, 254);
        refuse("hurt 2", 17, 2);
        refuse("hurt 255", 18, 255);
        refuse("miner 2", 19, 2);
        refuse("column 3", 20, 3);
        refuse("row 4", 21, 4);
        refuse("sold 2", 26, 2);
        refuse("tubs 100", 27, 100);
        refuse("tubs 255", 36, 255);
        refuse("the last byte", 37, (good()[37] + 1) % 251);
        refuse("the last byte above", 37, 255);
        refuseBytes("too short", Arrays.copyOf(good(), 37));
        refuseBytes("too long", Arrays.copyOf(good(), 39));
        refuseBytes("too long, summed", Check.summed(Arrays.copyOf(good(), 39)));
        refuseBytes("none", new int[0]);
        CHECK.put(good());
        CHECK.due("good still", CHECK.x.on(), true);
    }

    private static void withoutSeam() {
        CHECK.fresh();
        CHECK.put(CHECK.image());
        CHECK.due("without a seam", CHECK.x.on(), false);
        CHECK.due("the tape went", CHECK.x.end(1), false);
    }
}
