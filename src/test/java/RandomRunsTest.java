import java.lang.reflect.Method;
import java.nio.charset.StandardCharsets;
import java.util.ArrayList;
import java.util.Arrays;
import java.util.HashMap;
import java.util.List;
import java.util.Map;
import java.util.Random;

/** Runs of calls, made at random from fixed starts: DarkMine answers each as PlainMine does. */
public final class RandomRunsTest {
    private static final Map<String, Method> DARK = methods(DarkMine.class);
    private static final Map<String, Method> PLAIN = methods(PlainMine.class);
    private static int wrong = 0;

    private final Random random;
    private final DarkMine dark = new DarkMine();
    private final PlainMine plain = new PlainMine();
    private final List<String> done = new ArrayList<>();
    private int calls = 0;

    private RandomRunsTest(long start) {
        random = new Random(start);
    }

    private static Map<String, Method> methods(Class<?> kind) {
        Map<String, Method> all = new HashMap<>();
        for (Method m : kind.getDeclaredMethods()) {
            all.put(m.getName() + m.getParameterCount(), m);
        }
        return all;
    }

    private Object call(String name, int... args) {
        Object[] boxed = Arrays.stream(args).boxed().toArray();
        Object due;
        Object got;
        try {
            due = PLAIN.get(name + args.length).invoke(plain, boxed);
            got = DARK.get(name + args.length).invoke(dark, boxed);
        } catch (ReflectiveOperationException e) {
            throw new IllegalStateException(name + Arrays.toString(args) + " behind " + done, e);
        }
        calls++;
        String row = name + Arrays.toString(args) + " -> " + got;
        if (!due.equals(got)) {
            wrong++;
            System.out.println(row + ", due is " + due + ", behind " + done);
        }
        if (!name.equals("feed")) {
            done.add(row);
        }
        return due;
    }

    private void put(int[] bytes) {
        int[] padded = Arrays.copyOf(bytes, (bytes.length + 19) / 20 * 20);
        for (int k = 0; k < padded.length; k += 20) {
            int[] n = new int[5];
            for (int j = 0; j < 20; j++) {
                n[j / 4] = n[j / 4] << 8 | padded[k + j];
            }
            call("feed", n);
        }
        call("end", bytes.length);
    }

    private void text(String s) {
        done.add('"' + s + '"');
        byte[] b = s.getBytes(StandardCharsets.ISO_8859_1);
        int[] bytes = new int[b.length];
        for (int k = 0; k < b.length; k++) {
            bytes[k] = b[k] & 255;
        }
        put(bytes);
        call("mine");
        call("fault", 0);
        call("fault", 1);
    }

    private int below(int n) {
        return random.nextInt(n);
    }

    /** Most often 0 to n less 1, now and then a little outside, or far outside. */
    private int about(int n) {
        int k = below(20);
        if (k == 0) {
            return new int[] {-1, n, n + 1, Integer.MAX_VALUE, Integer.MIN_VALUE, -2}[below(6)];
        }
        return below(Math.max(1, n));
    }

    private int column() {
        return about(plain.has(0));
    }

    private int row() {
        return about(plain.has(1));
    }

    private void ask() {
        switch (below(22)) {
            case 0: call("has", about(17)); break;
            case 1: call("letter", about(2), about(6), about(6)); break;
            case 2: case 3: case 4: call("cell", column(), row(), about(6)); break;
            case 5: call("hurt", about(6)); break;
            case 6: call("plan", about(16), about(3)); break;
            case 7: call("order", about(5), about(5)); break;
            case 8: call("tubs", about(10)); break;
            case 9: call("later", column(), row(), about(41)); break;
            case 10: call("opens", column(), row()); break;
            case 11: call("worth", about(41)); break;
            case 12: call("shade", about(21), about(3)); break;
            case 13: call("change", about(21), about(3)); break;
            case 14: call("sale", about(2)); break;
            case 15: call("odds", below(4) == 0 ? -1 : column(), row()); break;
            case 16: call("reaches"); break;
            case 17: call("tells", about(3)); break;
            case 18: call("kept", about(40), about(4)); break;
            case 19: call("image"); break;
            case 20: call("octet", about(124)); break;
            default: call("status", about(6));
        }
    }

    private void act() {
        switch (below(14)) {
            case 0: call("shifts", 1 + below(3)); break;
            case 1: call("shifts", about(41)); break;
            case 2: call("chance", 1 + below(3)); break;
            case 3: call("chance", about(41)); break;
            case 4: case 5: call("hang", column(), row(), about(2)); break;
            case 6: hangSomewhere(); break;
            case 7: call("send", about(plain.has(3)), about(plain.has(2)), column(), row()); break;
            case 8: call("heal", about(plain.has(2))); break;
            case 9: call("sell", about(plain.has(4))); break;
            case 10: case 11: call("undo"); break;
            case 12: call("seed", below(9) == 0 ? -1 - below(3) : random.nextInt() & Integer.MAX_VALUE); break;
            default: tapeCalls();
        }
    }

    private void hangSomewhere() {
        for (int r = 0; r < plain.has(1); r++) {
            for (int c = 0; c < plain.has(0); c++) {
                if (plain.cell(c, r, 1) == 1 && below(3) == 0) {
                    call("hang", c, r, below(4) == 0 ? 0 : 1);
                    return;
                }
            }
        }
    }

    private void tapeCalls() {
        switch (below(6)) {
            case 0: case 1: put(feeling()); call("feel"); call("has", 14); call("reaches"); break;
            case 2: case 3: case 4: put(changedImage()); call("on"); break;
            default:
                if (below(4) == 0) {
                    text(new Texts(random).doubtful());
                } else {
                    call("end", about(30));
                }
        }
    }

    private int[] feeling() {
        int[] bytes = new int[4 * (1 + below(below(9) == 0 ? 18 : 3))];
        for (int k = 0; k < bytes.length; k += 4) {
            int n = below(31);
            int c = below(Math.max(1, plain.has(0)));
            int r = below(Math.max(1, plain.has(1)));
            bytes[k] = n;
            bytes[k + 1] = c;
            bytes[k + 2] = r;
            int grade = plain.later(c, r, n);
            bytes[k + 3] = grade == -1 ? 255 : grade;
        }
        if (below(6) == 0) {
            bytes[below(bytes.length)] = below(2) == 0 ? below(256) : below(12);
        }
        return below(12) == 0 ? Arrays.copyOf(bytes, bytes.length + below(4)) : bytes;
    }

    private int[] changedImage() {
        PlainMine p = plain;
        int length = (int) call("image");
        int[] bytes = new int[length];
        for (int k = 0; k < length; k++) {
            bytes[k] = p.octet(k);
        }
        int[] some = {0, 1, 9, 10, 99, 100, 253, 254, 255, 3, 4, 6, 7};
        for (int k = below(3); k > 0; k--) {
            bytes[below(length)] = some[below(some.length)];
        }
        if (below(3) == 0) {
            int[] late = {3, 231 - below(40)};
            bytes[0] = late[0];
            bytes[1] = late[1];
        }
        if (below(6) == 0) {
            bytes[2] = 1;
            bytes[3] = 134;
            bytes[4] = 159 - below(9) + below(2);
        }
        if (below(8) > 0) {
            int c = 233;
            for (int k = 0; k < length - 1; k++) {
                c = (5 * c + bytes[k]) % 251;
            }
            bytes[length - 1] = c;
        }
        return below(20) == 0 ? Arrays.copyOf(bytes, length - 1 + below(3)) : bytes;
    }

    private void run() {
        if (below(12) == 0) {
            for (int k = 0; k < 20; k++) {
                ask();
                act();
            }
        }
        text(new Texts(random).good());
        while (calls < 470) {
            ask();
            if (below(3) == 0) {
                act();
            }
        }
        for (int what = 0; what < 6; what++) {
            call("status", what);
        }
    }

    private void runTexts() {
        while (calls < 420) {
            text(new Texts(random).doubtful());
        }
    }

    public static void main(String[] args) {
        int runs = args.length > 0 ? Integer.parseInt(args[0]) : 60;
        long first = args.length > 1 ? Long.parseLong(args[1]) : 1;
        for (long start = first; start < first + runs && wrong < 10; start++) {
            new RandomRunsTest(start).run();
            new RandomRunsTest(-start).runTexts();
        }
        if (wrong > 0) {
            System.exit(1);
        }
    }
}
