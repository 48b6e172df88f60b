import java.nio.charset.StandardCharsets;
import java.util.Arrays;
import java.util.function.BooleanSupplier;
import java.util.function.IntSupplier;

/** What the tests have in common: texts and bytes for the tape, answers that are due. */
final class Check {
    private int wrong = 0;
    private String prefix = "";
    Watched x = new Watched();

    void fresh() {
        x = new Watched();
    }

    /** What comes from here on is said to be about that. */
    void about(String subject) {
        prefix = subject + ": ";
        fresh();
    }

    private void freshIfTired(int calls) {
        if (x.calls() + calls > Watched.CALLS_MOST) {
            fresh();
        }
    }

    void due(String what, long got, long want) {
        if (got != want) {
            wrong++;
            System.out.println(prefix + what + " answered " + got + ", due is " + want);
        }
    }

    void due(String what, boolean got, boolean want) {
        due(what, got ? 1 : 0, want ? 1 : 0);
    }

    /** Each of the answers in turn. */
    void dueAll(String what, int[] got, int... want) {
        due(what + ": how many", got.length, want.length);
        for (int k = 0; k < Math.min(got.length, want.length); k++) {
            due(what + " at " + k, got[k], want[k]);
        }
    }

    /** The bytes are on the tape. */
    void put(int... bytes) {
        int[] padded = Arrays.copyOf(bytes, (bytes.length + 19) / 20 * 20);
        x.end(0);
        for (int k = 0; k < padded.length; k += 20) {
            int[] n = new int[5];
            for (int j = 0; j < 20; j++) {
                n[j / 4] = n[j / 4] << 8 | padded[k + j];
            }
            x.feed(n[0], n[1], n[2], n[3], n[4]);
        }
        x.end(bytes.length);
    }

    void putText(String text) {
        byte[] b = text.getBytes(StandardCharsets.ISO_8859_1);
        int[] bytes = new int[b.length];
        for (int k = 0; k < b.length; k++) {
            bytes[k] = b[k] & 255;
        }
        put(bytes);
    }

    /** The text has that fault, or none (0, -1). */
    void fault(String text, int kind, int place) {
        freshIfTired(90);
        putText(text);
        int statements = x.mine();
        String told = text.length() > 200 ? text.substring(0, 200) + " .." : text;
        due("mine() of " + told + " is refused", statements == DarkMine.NONE, kind != 0);
        due("fault(0) of " + told, x.fault(0), kind);
        due("fault(1) of " + told, x.fault(1), place);
    }

    /** The text without its sign ^ has that fault, where the sign was. */
    void faultAt(int kind, String marked) {
        int place = marked.indexOf('^');
        fault(marked.substring(0, place) + marked.substring(place + 1), kind, place);
    }

    /** The text has no fault, and so many statements. */
    void good(int statements, String text) {
        fault(text, 0, -1);
        putText(text);
        due("mine() of " + text, x.mine(), statements);
    }

    /** A fresh object with that mine. */
    void mine(String text) {
        fresh();
        putText(text);
        if (x.mine() == DarkMine.NONE) {
            due("fault(0) of " + text + " at " + x.fault(1), x.fault(0), 0);
        }
    }

    int[] image() {
        int[] bytes = new int[x.image()];
        for (int k = 0; k < bytes.length; k++) {
            bytes[k] = x.octet(k);
        }
        return bytes;
    }

    /** Of an image, where the byte of a cell is. */
    int cellByte(int column, int row) {
        return 5 + x.has(0) * row + column;
    }

    /** Of an image, where the byte of a row of the plan begins. */
    int planByte(int row) {
        return 5 + x.has(0) * x.has(1) + x.has(2) + 3 * row;
    }

    /** Of an image, where the byte of an order is. */
    int orderByte(int order) {
        return planByte(x.has(3)) + order;
    }

    /** Of an image, where the byte of a grade's tubs is. */
    int tubsByte(int grade) {
        return orderByte(x.has(4)) + grade;
    }

    /** All goes on as it is, but for these bytes of its image: place, byte, place, byte .. */
    void change(int... changes) {
        put(changed(changes));
        due("on() of a changed image", x.on(), true);
    }

    int[] changed(int... changes) {
        int[] bytes = image();
        for (int k = 0; k < changes.length; k += 2) {
            bytes[changes[k]] = changes[k + 1];
        }
        return summed(bytes);
    }

    /** All goes on as it is, but at that shift. */
    void at(int shift) {
        change(0, shift / 256, 1, shift % 256);
    }

    /** All goes on as it is, but these cells are open: column, row, column, row .. */
    void open(int... cells) {
        int[] changes = new int[cells.length];
        for (int k = 0; k < cells.length; k += 2) {
            changes[k] = cellByte(cells[k], cells[k + 1]);
            changes[k + 1] = 255;
        }
        change(changes);
    }

    int[] has() {
        int[] all = new int[17];
        for (int what = 0; what < all.length; what++) {
            all[what] = x.has(what);
        }
        return all;
    }

    int[] kept() {
        int[] all = new int[4 * x.has(13)];
        for (int k = 0; k < all.length; k++) {
            all[k] = x.kept(k / 4, k % 4);
        }
        return all;
    }

    int[] status() {
        int[] all = new int[6];
        for (int what = 0; what < all.length; what++) {
            all[what] = x.status(what);
        }
        return all;
    }

    /** The call answers NONE (or false, as NONE) and is counted there; all else stays. */
    void refused(String what, int group, IntSupplier call) {
        int[] has = has();
        int[] image = image();
        int[] kept = kept();
        int reaches = x.reaches();
        int[] status = status();
        due(what + " is refused", call.getAsInt(), DarkMine.NONE);
        status[group]++;
        dueAll(what + " is counted", status(), status);
        dueAll(what + ", has stays", has(), has);
        dueAll(what + ", the image stays", image(), image);
        dueAll(what + ", kept stays", kept(), kept);
        due(what + ", reaches stay", x.reaches(), reaches);
    }

    void refused(String what, int group, BooleanSupplier call) {
        refused(what, group, () -> call.getAsBoolean() ? 1 : DarkMine.NONE);
    }

    /** The last byte made anew, as it is due behind those ahead of it. */
    static int[] summed(int... bytes) {
        int[] all = bytes.clone();
        int c = 233;
        for (int k = 0; k < all.length - 1; k++) {
            c = (5 * c + all[k]) % 251;
        }
        all[all.length - 1] = c;
        return all;
    }

    void end() {
        if (wrong > 0) {
            System.exit(1);
        }
    }
}
