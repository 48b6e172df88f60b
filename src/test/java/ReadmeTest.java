import java.io.IOException;
import java.lang.reflect.Method;
import java.nio.file.Files;
import java.nio.file.Path;
import java.util.Arrays;
import java.util.regex.Matcher;
import java.util.regex.Pattern;

/** README.md shows calls with their answers behind them: each answers just that. */
public final class ReadmeTest {
    private static final Pattern BLOCK = Pattern.compile("(?s)```java\n(.*?)```");
    /* A text, or the name and the arguments of a call; then what is due. */
    private static final Pattern CALL = Pattern.compile(
        "(?s)(?:tell\\(x, ([^;]*?(?:\"[^\"]*\"[^;]*?)+)\\)|x\\.(\\w+)\\(([^)]*)\\));\\s+// (\\w+)");
    private static final Check CHECK = new Check();

    public static void main(String[] args) throws IOException, ReflectiveOperationException {
        String page = Files.readString(Path.of("README.md"));
        int calls = 0;
        Matcher blocks = BLOCK.matcher(page);
        while (blocks.find()) {
            calls += runBlock(blocks.group(1));
        }
        CHECK.due("all calls of the page are run", calls, page.split(";\\s+// ").length - 1);
        CHECK.end();
    }

    private static int runBlock(String block) throws ReflectiveOperationException {
        CHECK.fresh();
        DarkMine x = new DarkMine();
        int calls = 0;
        Matcher rows = CALL.matcher(block);
        while (rows.find()) {
            int got = rows.group(1) == null ? call(x, rows.group(2), rows.group(3)) : tell(x, rows.group(1));
            CHECK.due("README.md: " + rows.group(), got, due(rows.group(4)));
            calls++;
        }
        return calls;
    }

    private static int due(String told) {
        switch (told) {
            case "true": return 1;
            case "false": return 0;
            case "NONE": return DarkMine.NONE;
            default: return Integer.parseInt(told);
        }
    }

    private static int call(DarkMine x, String name, String told) throws ReflectiveOperationException {
        Integer[] given = told.isEmpty() ? new Integer[0]
            : Arrays.stream(told.split(", ")).map(Integer::decode).toArray(Integer[]::new);
        Class<?>[] kinds = new Class<?>[given.length];
        Arrays.fill(kinds, int.class);
        Method method = DarkMine.class.getMethod(name, kinds);
        Object answer = method.invoke(x, (Object[]) given);
        return answer instanceof Boolean ? ((Boolean) answer ? 1 : 0) : (Integer) answer;
    }

    /** The texts between quotes, joined, are the mine. */
    private static int tell(DarkMine x, String quoted) {
        StringBuilder text = new StringBuilder();
        Matcher parts = Pattern.compile("\"([^\"]*)\"").matcher(quoted);
        while (parts.find()) {
            text.append(parts.group(1));
        }
        int length = text.length();
        text.append(" ".repeat(20));
        for (int k = 0; k < length; k += 20) {
            x.feed(number(text, k), number(text, k + 4), number(text, k + 8), number(text, k + 12), number(text, k + 16));
        }
        x.end(length);
        return x.mine();
    }

    private static int number(CharSequence text, int at) {
        return text.charAt(at) << 24 | text.charAt(at + 1) << 16 | text.charAt(at + 2) << 8 | text.charAt(at + 3);
    }
}
