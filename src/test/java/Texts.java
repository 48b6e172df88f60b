import java.util.ArrayList;
import java.util.List;
import java.util.Random;

/** Texts of mines, made at random from a given start: good ones, and ones with something wrong. */
final class Texts {
    private static final String[] NAMES = {"a", "b", "ab", "zed", "miners", "x", "quay", "orders", "o", "p"};
    private final Random random;
    private boolean spoiling;

    Texts(Random random) {
        this.random = random;
    }

    private int below(int n) {
        return random.nextInt(n);
    }

    private String oneOf(String... all) {
        return all[below(all.length)];
    }

    String sum(int deep) {
        StringBuilder s = new StringBuilder(product(deep));
        while (below(3) == 0) {
            s.append(oneOf("+", "-", " - ", " + ")).append(product(deep));
        }
        return s.toString();
    }

    private String product(int deep) {
        StringBuilder s = new StringBuilder(part(deep));
        while (below(4) == 0) {
            s.append(oneOf("*", "/", "%")).append(part(deep));
        }
        return s.toString();
    }

    private String part(int deep) {
        switch (below(deep > 0 ? 9 : 5)) {
            case 0: return String.valueOf(below(5));
            case 1: return String.valueOf(below(8) == 0 ? below(10000) : below(12));
            case 2: return "grade";
            case 3: return oneOf("depth", "shift");
            case 4: return spoiling ? "far" : oneOf("open", "lit");
            case 5: return "(" + sum(deep - 1) + ")";
            case 6: return "min(" + sum(deep - 1) + "," + sum(deep - 1) + ")";
            case 7: return "max (" + sum(deep - 1) + ", " + sum(deep - 1) + ")";
            default: return "if(" + test(deep - 1) + "," + sum(deep - 1) + "," + sum(deep - 1) + ")";
        }
    }

    String test(int deep) {
        StringBuilder s = new StringBuilder(both(deep));
        while (below(5) == 0) {
            s.append(" or ").append(both(deep));
        }
        return s.toString();
    }

    private String both(int deep) {
        StringBuilder s = new StringBuilder(fact(deep));
        while (below(4) == 0) {
            s.append(" and ").append(fact(deep));
        }
        return s.toString();
    }

    private String fact(int deep) {
        switch (below(deep > 0 ? 7 : 4)) {
            case 0: return below(4) == 0 ? "all" : sum(deep) + "=" + sum(deep);
            case 4: return "not " + fact(deep - 1);
            case 5: return "[" + test(deep - 1) + "]";
            default: return sum(deep) + oneOf("<", ">", "=") + sum(deep);
        }
    }

    private String shortEnough(String s, String other) {
        return s.length() > 300 ? other : s;
    }

    /** A mine without a fault. */
    String good() {
        int columns = 3 + below(5);
        int rows = 3 + below(5);
        List<String> all = new ArrayList<>();
        for (int k = below(12); k > 0; k--) {
            all.add("grade " + below(columns) + " " + below(rows) + " " + below(10));
        }
        if (below(3) > 0) {
            all.add("shaft " + below(columns));
        }
        if (below(3) > 0) {
            all.add("reach " + (below(4) == 0 ? below(21) : below(5)));
        }
        if (below(2) > 0) {
            all.add("quake " + below(101));
        }
        addRules(all);
        java.util.Collections.shuffle(all, random);
        addPeople(all, columns, rows);
        StringBuilder text = new StringBuilder("seam " + columns + " by " + rows + ";");
        for (String s : all) {
            text.append(oneOf("", "", " ", "\n")).append(s).append(below(6) == 0 ? " ;" : ";");
        }
        return text.length() > 1600 ? good() : text.toString();
    }

    private void addRules(List<String> all) {
        if (below(3) > 0) {
            spoiling = true;
            all.add("spoils " + shortEnough(below(2) == 0 ? oneOf("0", "1", "far", "if(far>1,1,2)") : sum(3), "far"));
        }
        spoiling = false;
        if (below(3) > 0) {
            String rare = oneOf("shift%5=4", "open>1 and lit=1", "lit=0", "grade=0", "depth>2 and shift>7");
            all.add("falls " + shortEnough(below(2) == 0 ? rare : test(3), "lit=0"));
        }
        if (below(3) > 0) {
            all.add("gets " + shortEnough(below(2) == 0 ? oneOf("grade+1", "grade-lit", "open*3") : sum(3), "grade"));
        }
    }

    private void addPeople(List<String> all, int columns, int rows) {
        int miners = below(7);
        for (int k = 0; k < miners; k++) {
            all.add("miner " + NAMES[k]);
        }
        for (int k = miners == 0 ? 0 : below(17); k > 0; k--) {
            int column = below(3) == 0 ? below(columns) : columns / 2;
            all.add("dig " + NAMES[below(miners)] + " at " + column + " " + below(rows));
        }
        int orders = below(6);
        for (int k = 0; k < orders && miners + k < NAMES.length; k++) {
            all.add("order " + NAMES[miners + k] + " grade " + below(10) + " tubs " + (1 + below(below(2) == 0 ? 2 : 9))
                + " pays " + (below(2) == 0 ? 10 * below(4) : below(1000)));
        }
    }

    /** A mine's text with some bytes or words changed; most have a fault. */
    String doubtful() {
        StringBuilder s = new StringBuilder(below(3) == 0 ? deepOne() : good());
        for (int k = 1 + below(3); k > 0; k--) {
            int at = below(s.length() + 1);
            switch (below(6)) {
                case 0: s.setLength(at); break;
                case 1: s.insert(at, (char) (below(8) == 0 ? below(256) : " ;,()[]<>=+-*/%09az\n".charAt(below(20)))); break;
                case 2: s.insert(at, oneOf(" not ", "(", "[", "12345", "abcdefg", " 9 ", "miner a;", " seam ", "gets 1;")); break;
                case 3: if (at < s.length()) { s.deleteCharAt(at); } break;
                case 4: s.delete(at, Math.min(s.length(), at + below(6))); break;
                default: s.append(oneOf("miner b;", "dig a at 0 0;", "dig zed at 1 1;", "order p grade 1 tubs 2 pays 3;",
                    "spoils 1;", "falls all;", "gets grade;", "shaft 1;", "reach 20;", "quake 100;", "seam 3 by 3;", "x"));
            }
        }
        if (s.length() > 1600) {
            s.setLength(1600);
        }
        return s.toString();
    }

    private String deepOne() {
        String sort = oneOf("spoils", "falls", "gets");
        spoiling = sort.equals("spoils");
        String rule = sort.equals("falls") ? test(5 + below(5)) : sum(5 + below(5));
        return "seam 3 by 4;miner a;" + sort + " " + (rule.length() > 1500 ? rule.substring(0, 1500) : rule) + ";";
    }
}
