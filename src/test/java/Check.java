import java.nio.charset.StandardCharsets;
import java.util.Arrays;

/** What the tests have in common: texts and bytes for the tape, answers that are due. */
final class Check {
    private int wrong = 0;
    DarkMine x = new DarkMine();

    void fresh() {
        x = new DarkMine();
    }

    void due(String what, long got, long want) {
        if (got != want) {
            wrong++;
            System.out.println(what + " answered " + got + ", due is " + want);
        }
    }

    void due(String what, boolean got, boolean want) {
        due(what, got ? 1 : 0, want ? 1 : 0);
    }

    /** Each of the answers in turn. */
    void dueAll(String what, int[] got, int... want) {
        due(what + ": how many", got.length, want.length);
        for (int k = 0; k < Math.min(got.length, want.length); k++) {
            due(what + " at " + k, got[k], want[k]);
        }
    }

    /** The bytes are on the tape. */
    void put(int... bytes) {
        int[] padded = Arrays.copyOf(bytes, (bytes.length + 19) / 20 * 20);
        x.end(0);
        for (int k = 0; k < padded.length; k += 20) {
            int[] n = new int[5];
            for (int j = 0; j < 20; j++) {
                n[j / 4] = n[j / 4] << 8 | padded[k + j];
            }
            x.feed(n[0], n[1], n[2], n[3], n[4]);
        }
        x.end(bytes.length);
    }

    void putText(String text) {
        byte[] b = text.getBytes(StandardCharsets.ISO_8859_1);
        int[] bytes = new int[b.length];
        for (int k = 0; k < b.length; k++) {
            bytes[k] = b[k] & 255;
        }
        put(bytes);
    }

    /** The text has that fault, or none (0, -1). */
    void fault(String text, int kind, int place) {
        putText(text);
        int statements = x.mine();
        String told = text.length() > 200 ? text.substring(0, 200) + " .." : text;
        due("mine() of " + told + " is refused", statements == DarkMine.NONE, kind != 0);
        due("fault(0) of " + told, x.fault(0), kind);
        due("fault(1) of " + told, x.fault(1), place);
    }

    /** A fresh object with that mine. */
    void mine(String text) {
        fresh();
        putText(text);
        if (x.mine() == DarkMine.NONE) {
            due("fault(0) of " + text + " at " + x.fault(1), x.fault(0), 0);
        }
    }

    int[] image() {
        int[] bytes = new int[x.image()];
        for (int k = 0; k < bytes.length; k++) {
            bytes[k] = x.octet(k);
        }
        return bytes;
    }

    /** The last byte made anew, as it is due behind those ahead of it. */
    static int[] summed(int... bytes) {
        int[] all = bytes.clone();
        int c = 233;
        for (int k = 0; k < all.length - 1; k++) {
            c = (5 * c + all[k]) % 251;
        }
        all[all.length - 1] = c;
        return all;
    }

    void end() {
        if (wrong > 0) {
            System.exit(1);
        }
    }
}
