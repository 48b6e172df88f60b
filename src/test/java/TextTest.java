/** Promises 1 to 5: a new object, feed, end, mine, fault. */
public final class TextTest {
    private static final String SEAM = "seam 3 by 3;";
    private static final Check CHECK = new Check();

    public static void main(String[] args) {
        newObject();
        feed();
        end();
        mine();
        faultAsked();
        firstByte();
        wordsAndNumbers();
        names();
        numbers();
        openAtOnce();
        tooMany();
        ruleWords();
        fullTape();
        CHECK.end();
    }

    private static void newObject() {
        CHECK.fresh();
        for (int what = 0; what < 16; what++) {
            CHECK.due("has(" + what + ") at first", CHECK.x.has(what), 0);
        }
        CHECK.due("the seed at first", CHECK.x.has(16), 1);
        CHECK.due("no cell", CHECK.x.cell(0, 0, 1), -1);
        CHECK.due("no miner", CHECK.x.hurt(0), -1);
        CHECK.due("no image", CHECK.x.octet(0), -1);
        for (int what = 0; what < 6; what++) {
            CHECK.due("status(" + what + ") at first", CHECK.x.status(what), 0);
        }
        CHECK.due("NONE", DarkMine.NONE, -1);
    }

    private static void feed() {
        CHECK.fresh();
        for (int k = 1; k <= 80; k++) {
            CHECK.due("feed " + k, CHECK.x.feed(1, 2, 3, 4, 5), 20 * k);
        }
        CHECK.due("feed beyond 1600", CHECK.x.feed(1, 2, 3, 4, 5), -1);
        CHECK.due("refused", CHECK.x.status(0), 1);
        CHECK.due("end(1581)", CHECK.x.end(1581), true);
        CHECK.due("feed to 1601", CHECK.x.feed(0, 0, 0, 0, 0), -1);
        CHECK.due("end(1580)", CHECK.x.end(1580), true);
        CHECK.due("feed to 1600", CHECK.x.feed(0, 0, 0, 0, 0), 1600);
        // "seam 3 by 3;        ", each number's highest byte first; a byte above 127 is no letter
        CHECK.fresh();
        CHECK.x.feed(0x7365616d, 0x20332062, 0x7920333b, 0x20202020, 0x20202020);
        CHECK.due("the bytes in their order", CHECK.x.mine(), 1);
        CHECK.x.feed(0x7365616d, 0x20332062, 0x7920333b, 0x202020e1, 0x20202020);
        CHECK.due("a high byte", CHECK.x.mine(), -1);
        CHECK.due("a high byte's place", CHECK.x.fault(1), 15);
    }

    private static void end() {
        CHECK.fresh();
        CHECK.due("end(0) of none", CHECK.x.end(0), true);
        CHECK.due("end(1) of none", CHECK.x.end(1), false);
        CHECK.x.feed(0x7365616d, 0x20332062, 0x7920333b, 0x61616161, 0x61616161);
        CHECK.due("end(-1)", CHECK.x.end(-1), false);
        CHECK.due("end(21)", CHECK.x.end(21), false);
        CHECK.due("end(20)", CHECK.x.end(20), true);
        CHECK.due("end(12)", CHECK.x.end(12), true);
        CHECK.due("end(13) then", CHECK.x.end(13), false);
        CHECK.due("refused", CHECK.x.status(0), 4);
        CHECK.due("the first 12 bytes", CHECK.x.mine(), 1);
        CHECK.due("the tape went", CHECK.x.end(1), false);
    }

    private static void mine() {
        CHECK.mine("seam 3 by 4;miner a;dig a at 0 1;order o grade 0 tubs 1 pays 7;");
        CHECK.due("statements", CHECK.x.mine(), -1);
        CHECK.x.seed(77);
        CHECK.x.shifts(2);
        CHECK.x.sell(0);
        CHECK.put(1, 0, 0, 255);
        CHECK.x.feel();
        CHECK.due("sold", CHECK.x.has(11), 7);
        CHECK.putText("seam 3");
        CHECK.due("refused", CHECK.x.mine(), -1);
        CHECK.due("the tape went", CHECK.x.end(1), false);
        CHECK.dueAll("all stays", hasAll(), 3, 4, 1, 1, 1, 2, 2, 2, 0, 0, 0, 7, 44, 1, 1, 2, 77);
        CHECK.due("refused mines", CHECK.x.status(1), 2);
        CHECK.putText(" seam 4 by 3 ;\nshaft 1;shaft 2;reach 0;");
        CHECK.due("statements anew", CHECK.x.mine(), 4);
        CHECK.dueAll("as at first", hasAll(), 4, 3, 0, 0, 0, 0, 1, 1, 0, 0, 0, 0, 55, 0, 0, 0, 77);
        CHECK.due("the last shaft counts", CHECK.x.cell(2, 0, 1), 1);
        CHECK.due("none is undone", CHECK.x.undo(), false);
        hurtAndSoldNoMore();
        CHECK.mine("seam 3 by 3;grade 1 1 3;grade 1 1 8;grade 2 0 0;");
        CHECK.due("the last grade counts", CHECK.x.cell(1, 1, 0), 8);
        CHECK.due("grade 0", CHECK.x.cell(2, 0, 0), 0);
        CHECK.due("grade without", CHECK.x.cell(0, 1, 0), 5);
        CHECK.due("shaft without", CHECK.x.cell(0, 0, 1), 1);
        reachWithout();
        CHECK.mine("seam 3 by 3;" + "shaft 0;".repeat(79));
        CHECK.putText("seam 3 by 3;" + "shaft 0;".repeat(79) + " \n");
        CHECK.due("80 statements", CHECK.x.mine(), 80);
    }

    private static void hurtAndSoldNoMore() {
        String text = "seam 3 by 3;miner a;dig a at 0 1;dig a at 0 2;falls shift=1;order o grade 0 tubs 1 pays 7;";
        CHECK.mine(text);
        CHECK.x.shifts(2);
        CHECK.x.sell(0);
        CHECK.x.send(0, 0, 2, 2);
        CHECK.due("hurt", CHECK.x.hurt(0), 1);
        CHECK.due("sold", CHECK.x.order(0, 3), 1);
        CHECK.putText(text);
        CHECK.x.mine();
        CHECK.due("hurt no more", CHECK.x.hurt(0), 0);
        CHECK.due("sold no more", CHECK.x.order(0, 3), 0);
        CHECK.x.shifts(1);
        CHECK.due("a tub", CHECK.x.has(10), 1);
        CHECK.putText(text);
        CHECK.x.mine();
        CHECK.due("no tubs", CHECK.x.has(10), 0);
        CHECK.due("the plan as told", CHECK.x.plan(0, 1), 0);
    }

    private static int[] hasAll() {
        int[] all = new int[17];
        for (int what = 0; what < 17; what++) {
            all[what] = CHECK.x.has(what);
        }
        return all;
    }

    private static void reachWithout() {
        String digs = "miner a;dig a at 0 1;dig a at 0 2;dig a at 0 3;dig a at 0 4;";
        CHECK.mine("seam 3 by 5;" + digs);
        CHECK.x.shifts(4);
        CHECK.due("reach 3 without", CHECK.x.has(7), 4);
        CHECK.mine("seam 3 by 5;reach 20;reach 1;" + digs);
        CHECK.x.shifts(4);
        CHECK.due("the last reach counts", CHECK.x.has(7), 2);
        CHECK.x.chance(40);
        CHECK.due("quake 0 without", CHECK.x.has(6), 5);
        CHECK.due("quake 0 without, by odds", CHECK.x.odds(0, 4), 1500);
    }

    private static void faultAsked() {
        CHECK.fresh();
        CHECK.due("fault(0) ahead of any", CHECK.x.fault(0), 0);
        CHECK.due("fault(1) ahead of any", CHECK.x.fault(1), -1);
        CHECK.fault("seam 9", 4, 5);
        CHECK.due("fault(2)", CHECK.x.fault(2), -1);
        CHECK.due("fault(-1)", CHECK.x.fault(-1), -1);
        CHECK.fault(SEAM, 0, -1);
    }

    private static void firstByte() {
        CHECK.fault("", 1, 0);
        CHECK.fault("  \n ", 1, 4);
        CHECK.fault("shaft 0;", 1, 0);
        CHECK.fault(" ;", 1, 1);
        CHECK.fault("seam 3 by 3", 1, 11);
        CHECK.fault("seam 3 by 3 ", 1, 12);
        CHECK.fault("seam 3 by;", 1, 9);
        CHECK.fault("seam 3 3;", 1, 7);
        CHECK.fault("seam by 3;", 1, 5);
        CHECK.fault(SEAM + ";", 1, 12);
        CHECK.fault(SEAM + SEAM, 1, 12);
        CHECK.fault(SEAM + " seams", 1, 13);
        CHECK.fault(SEAM + "by 3;", 1, 12);
        CHECK.fault(SEAM + "a 3;", 1, 12);
        CHECK.fault(SEAM + "5;", 1, 12);
        CHECK.fault(SEAM + "Shaft 0;", 1, 12);
        CHECK.fault(SEAM + "shaft\t0;", 1, 17);
        CHECK.fault(SEAM + "shaft 0 0;", 1, 20);
        CHECK.fault(SEAM + "shaft a;", 1, 18);
        CHECK.fault(SEAM + "grade 1 1;", 1, 21);
        CHECK.fault(SEAM + "miner a;dig a 1 1;", 1, 26);
        CHECK.fault(SEAM + "order o tubs 1;", 1, 20);
        CHECK.fault(SEAM + "order o grade 1 pays 1;", 1, 28);
        CHECK.fault(SEAM + "order o grade 1 tubs 1;", 1, 34);
        CHECK.fault(SEAM + "shaft 0;\n\nshaft 1 ; ", 0, -1);
    }

    private static void wordsAndNumbers() {
        CHECK.fault("seam3 by 3;", 1, 4);
        CHECK.fault("seam 3by 3;", 1, 6);
        CHECK.fault("seam 3 by3;", 1, 9);
        CHECK.fault("seam 9by 3;", 4, 5);
        CHECK.fault("seam 0003 by\n07;", 0, -1);
        CHECK.fault("seam 00003 by 3;", 1, 9);
        CHECK.fault("seam 99999", 1, 9);
        CHECK.fault("seam 9999", 4, 5);
        CHECK.fault("12345", 1, 4);
        CHECK.fault("seamseam", 1, 6);
        CHECK.fault("seamse", 1, 0);
        CHECK.fault(SEAM + "miner abcdefg;", 1, 24);
        CHECK.fault(SEAM + "miner abcdef;", 0, -1);
        CHECK.fault(SEAM + "shaft abcdefg", 1, 24);
        CHECK.fault(SEAM + "falls 1=1and 2=2;", 1, 21);
        CHECK.fault(SEAM + "falls 1=1 and 2=2;", 0, -1);
        CHECK.fault(SEAM + "gets 1 2;", 1, 19);
    }

    private static void names() {
        for (String own : ("seam by shaft reach quake grade miner dig at order tubs pays spoils falls gets depth shift"
                + " far open lit if or and not all min max").split(" ")) {
            CHECK.fault(SEAM + "miner " + own + ";", 1, 18);
            CHECK.fault(SEAM + "order " + own + ";", 1, 18);
            CHECK.fault(SEAM + "miner a;dig " + own + ";", 1, 24);
        }
        CHECK.fault(SEAM + "miner mine;order orders grade 1 tubs 1 pays 1;", 0, -1);
        CHECK.fault(SEAM + "miner ab;miner b;miner ab;", 2, 35);
        CHECK.fault(SEAM + "order o grade 1 tubs 1 pays 1;order o", 2, 48);
        CHECK.fault(SEAM + "order o grade 1 tubs 1 pays 1;miner o", 2, 48);
        CHECK.fault(SEAM + "miner o;order o", 2, 26);
        CHECK.fault(SEAM + "dig a at 0 0;miner a;", 3, 16);
        CHECK.fault(SEAM + "order o grade 1 tubs 1 pays 1;dig o at 0 0;", 3, 46);
        CHECK.fault(SEAM + "miner a;miner aa;dig aa at 0 0;dig a at 0 1;", 0, -1);
    }

    private static void numbers() {
        CHECK.fault("seam 2 by 3;", 4, 5);
        CHECK.fault("seam 8 by 3;", 4, 5);
        CHECK.fault("seam 7 by 8;", 4, 10);
        CHECK.fault("seam 7 by 2;", 4, 10);
        CHECK.fault("seam 7 by 3;shaft 6;grade 6 2 9;reach 20;quake 100;", 0, -1);
        CHECK.fault("seam 3 by 7;shaft 3;", 4, 18);
        CHECK.fault("seam 3 by 7;grade 3 0 0;", 4, 18);
        CHECK.fault("seam 3 by 7;grade 2 7 0;", 4, 20);
        CHECK.fault("seam 3 by 7;grade 2 6 10;", 4, 22);
        CHECK.fault("seam 3 by 7;reach 21;", 4, 18);
        CHECK.fault("seam 3 by 7;quake 101;", 4, 18);
        CHECK.fault("seam 3 by 7;miner a;dig a at 3 0;", 4, 29);
        CHECK.fault("seam 3 by 7;miner a;dig a at 2 7;", 4, 31);
        CHECK.fault(SEAM + "order o grade 9 tubs 9 pays 999;", 0, -1);
        CHECK.fault(SEAM + "order o grade 0 tubs 1 pays 0;", 0, -1);
        CHECK.fault(SEAM + "order o grade 10 tubs 1 pays 0;", 4, 26);
        CHECK.fault(SEAM + "order o grade 0 tubs 0 pays 0;", 4, 33);
        CHECK.fault(SEAM + "order o grade 0 tubs 10 pays 0;", 4, 33);
        CHECK.fault(SEAM + "order o grade 0 tubs 1 pays 1000;", 4, 40);
    }

    private static void openAtOnce() {
        CHECK.fault(SEAM + "gets (((((((1)))))));", 0, -1);
        CHECK.fault(SEAM + "gets ((((((((1))))))));", 5, 24);
        CHECK.fault(SEAM + "gets (((((((1+min(1,2))))))));", 5, 29);
        CHECK.fault(SEAM + "gets ((((((1+min(1,max (1,2))))))));", 5, 35);
        CHECK.fault(SEAM + "gets ((((((1+min(1,2)))))))-(1);", 0, -1);
        CHECK.fault(SEAM + "falls [[[[[[[all]]]]]]];", 0, -1);
        CHECK.fault(SEAM + "falls [[[[[[[ [all]]]]]]]];", 5, 26);
        CHECK.fault(SEAM + "falls not not not not not not not all;", 0, -1);
        CHECK.fault(SEAM + "falls not not not not not not not not all;", 5, 46);
        CHECK.fault(SEAM + "falls not not not not not not not all or not all and not 1=1;", 0, -1);
        CHECK.fault(SEAM + "falls not not not not not not not (1)=1;", 5, 46);
        CHECK.fault(SEAM + "falls not not not not not not (1)=(1);", 0, -1);
        CHECK.fault(SEAM + "falls [[[[[[if(1=1,1,2)=(3)]]]]]] and ((((((1))))))=1;", 0, -1);
        for (String one : new String[] {"min(@,1)", "min(1,@)", "max(@,1)", "if(@=1,1,1)", "if(all,@,1)", "if(all,1,@)"}) {
            CHECK.fault(SEAM + "gets (((((" + one.replace("@", "(1)") + ")))));", 0, -1);
            int place = SEAM.length() + 5 + 5 + one.indexOf('@') + 1;
            CHECK.fault(SEAM + "gets (((((" + one.replace("@", "((1))") + ")))));", 5, place);
        }
        CHECK.fault(SEAM + "falls [[[[[[[if(", 5, 27);
        CHECK.fault(SEAM + "falls (((((((1 (", 1, 27);
    }

    private static void tooMany() {
        String miners = "miner a;miner b;miner c;miner d;miner e;miner f;";
        CHECK.fault(SEAM + miners, 0, -1);
        CHECK.fault(SEAM + miners + " miner a", 6, 61);
        CHECK.fault(SEAM + "miner a;" + "dig a at 0 0;".repeat(16), 0, -1);
        CHECK.fault(SEAM + "miner a;" + "dig a at 0 0;".repeat(16) + "dig", 6, 228);
        StringBuilder orders = new StringBuilder(SEAM);
        for (char c = 'a'; c < 'f'; c++) {
            orders.append("order ").append(c).append(" grade 1 tubs 1 pays 1;");
        }
        CHECK.fault(orders.toString(), 0, -1);
        CHECK.fault(orders + "order", 6, 162);
        CHECK.fault(SEAM + "spoils 1;falls all;gets 1;", 0, -1);
        CHECK.fault(SEAM + "spoils 1;spoils 1;", 6, 21);
        CHECK.fault(SEAM + "falls all;falls all;", 6, 22);
        CHECK.fault(SEAM + "gets 1;spoils 1;gets 1;", 6, 28);
        String eighty = SEAM + "reach 1;".repeat(79);
        CHECK.fault(eighty + "reach 1;", 6, 644);
        CHECK.fault(eighty + " \nseam", 6, 646);
        CHECK.fault(eighty + " x", 6, 645);
    }

    private static void fullTape() {
        String sum = "gets " + "1+".repeat(791) + "1";
        CHECK.fault(SEAM + sum, 1, 1600);
        CHECK.fault(SEAM + sum.substring(0, 1586) + "+;", 1, 1599);
        CHECK.fault(SEAM + sum.substring(0, 1586) + " ;", 0, -1);
        CHECK.fault(";".repeat(1600), 1, 0);
        CHECK.fault(" ".repeat(1600), 1, 1600);
        CHECK.fault("a".repeat(1600), 1, 6);
        CHECK.fault(" ".repeat(1588) + SEAM, 0, -1);
    }

    private static void ruleWords() {
        CHECK.fault(SEAM + "spoils far+grade*depth-shift;", 0, -1);
        CHECK.fault(SEAM + "spoils open;", 1, 19);
        CHECK.fault(SEAM + "spoils lit;", 1, 19);
        CHECK.fault(SEAM + "falls open+lit=grade*depth-shift;", 0, -1);
        CHECK.fault(SEAM + "falls far=1;", 1, 18);
        CHECK.fault(SEAM + "gets open+lit+grade*depth-shift;", 0, -1);
        CHECK.fault(SEAM + "gets far;", 1, 17);
        CHECK.fault(SEAM + "gets if(far=1,1,1);", 1, 20);
        CHECK.fault(SEAM + "spoils if(far=1,1,1);", 0, -1);
        CHECK.fault(SEAM + "gets;", 1, 16);
        CHECK.fault(SEAM + "gets -1;", 1, 17);
        CHECK.fault(SEAM + "gets 1+;", 1, 19);
        CHECK.fault(SEAM + "gets 1=1;", 1, 18);
        CHECK.fault(SEAM + "gets [1];", 1, 17);
        CHECK.fault(SEAM + "gets (1;", 1, 19);
        CHECK.fault(SEAM + "gets 1);", 1, 18);
        CHECK.fault(SEAM + "gets min(1);", 1, 22);
        CHECK.fault(SEAM + "gets max 1;", 1, 21);
        CHECK.fault(SEAM + "gets if(1,1,1);", 1, 21);
        CHECK.fault(SEAM + "gets if(all,1);", 1, 25);
        CHECK.fault(SEAM + "falls 1;", 1, 19);
        CHECK.fault(SEAM + "falls (1=1);", 1, 20);
        CHECK.fault(SEAM + "falls 1=1=1;", 1, 21);
        CHECK.fault(SEAM + "falls not;", 1, 21);
        CHECK.fault(SEAM + "falls [all;", 1, 22);
        CHECK.fault(SEAM + "falls all and;", 1, 25);
        CHECK.fault(SEAM + "falls all all;", 1, 22);
        CHECK.fault(SEAM + "falls 1<=1;", 1, 20);
    }
}
