import java.io.IOException;
import java.lang.reflect.Constructor;
import java.lang.reflect.Field;
import java.lang.reflect.Method;
import java.lang.reflect.Modifier;
import java.nio.file.Files;
import java.nio.file.Path;
import java.util.Arrays;
import java.util.Set;
import java.util.TreeSet;
import java.util.regex.Matcher;
import java.util.regex.Pattern;

/** The public face, and those rules of LANGUAGE.md that can be seen in the source or by reflection. */
public final class LanguageTest {
    private static final Set<String> FACE = new TreeSet<>(Arrays.asList(
        "int feed 5", "boolean end 1", "int mine 0", "int fault 1", "int has 1", "int letter 3", "int cell 3",
        "int hurt 1", "int plan 2", "int order 2", "int tubs 1", "int later 3", "int opens 2", "int worth 1",
        "int shade 2", "int change 2", "int sale 1", "int odds 2", "int feel 0", "int reaches 0", "int tells 1",
        "int shifts 1", "int chance 1", "boolean hang 3", "boolean send 4", "boolean heal 1", "int sell 1",
        "boolean undo 0", "boolean seed 1", "int kept 2", "int image 0", "int octet 1", "boolean on 0",
        "int status 1"));
    private static final String[] FORBIDDEN = {"throw", "throws", "try", "catch", "finally", "synchronized", "assert",
        "volatile", "native", "->", "::", "new Object", "Random", "Thread", "Exact", "hashCode", "toString",
        "String.format", "System.out", "System.currentTimeMillis", "System.nanoTime", "import static", "package"};
    private static final Set<String> LIBRARY = new TreeSet<>(Arrays.asList("Arrays.fill", "Arrays.copyOf",
        "Arrays.copyOfRange", "System.arraycopy", "Math.min", "Math.max", "Math.abs", "Math.floorDiv", "Math.floorMod",
        "Integer.bitCount", "Integer.compare"));
    private static final Check CHECK = new Check();

    public static void main(String[] args) throws IOException {
        face();
        nested();
        source();
        CHECK.end();
    }

    private static void wrong(String what) {
        CHECK.due(what, 1, 0);
    }

    private static void face() {
        Class<?> c = DarkMine.class;
        CHECK.due("public and final", Modifier.isPublic(c.getModifiers()) && Modifier.isFinal(c.getModifiers()), true);
        Set<String> methods = new TreeSet<>();
        for (Method m : c.getDeclaredMethods()) {
            String name = m.getReturnType() + " " + m.getName() + " " + m.getParameterCount();
            if (Modifier.isPublic(m.getModifiers())) {
                methods.add(name);
            } else {
                CHECK.due("private: " + name, Modifier.isPrivate(m.getModifiers()), true);
                CHECK.due("a name of the face: " + m, isOfFace(m), false);
            }
        }
        if (!methods.equals(FACE)) {
            wrong("the face is " + methods);
        }
        for (Constructor<?> k : c.getDeclaredConstructors()) {
            CHECK.due("the constructor", Modifier.isPublic(k.getModifiers()) && k.getParameterCount() == 0, true);
        }
        for (Field f : c.getDeclaredFields()) {
            boolean none = f.getName().equals("NONE");
            CHECK.due("field " + f.getName(), none ? Modifier.isPublic(f.getModifiers()) : Modifier.isPrivate(f.getModifiers()), true);
            CHECK.due("static is final: " + f.getName(),
                !Modifier.isStatic(f.getModifiers()) || Modifier.isFinal(f.getModifiers()), true);
        }
    }

    private static boolean isOfFace(Method m) {
        return FACE.stream().anyMatch(f -> f.split(" ")[1].equals(m.getName()));
    }

    private static void nested() {
        CHECK.due("at most twelve classes", DarkMine.class.getDeclaredClasses().length <= 12, true);
        for (Class<?> c : DarkMine.class.getDeclaredClasses()) {
            CHECK.due("static: " + c, Modifier.isStatic(c.getModifiers()) && !Modifier.isPublic(c.getModifiers()), true);
            for (Method m : c.getDeclaredMethods()) {
                CHECK.due("a name of the face: " + m, isOfFace(m), false);
                CHECK.due("parameters of " + m, m.getParameterCount() <= 7, true);
            }
            int fields = 0;
            for (Field f : c.getDeclaredFields()) {
                if (Modifier.isStatic(f.getModifiers())) {
                    CHECK.due("static is final: " + f, Modifier.isFinal(f.getModifiers()), true);
                } else {
                    fields++;
                }
            }
            CHECK.due("fields of " + c, fields <= 20, true);
        }
    }

    private static void source() throws IOException {
        String text = Files.readString(Path.of("src/main/java/DarkMine.java"));
        for (int k = 0; k < text.length(); k++) {
            if (text.charAt(k) > 126) {
                wrong("a sign above 126 at " + k);
            }
        }
        String code = text.replaceAll("(?s)/\\*.*?\\*/", " ").replaceAll("\"[^\"\n]*\"", "\"\"");
        for (String word : FORBIDDEN) {
            String sought = Character.isLetter(word.charAt(0)) ? "\\b" + Pattern.quote(word) + "\\b" : Pattern.quote(word);
            if (Pattern.compile(sought).matcher(code).find()) {
                wrong("forbidden: " + word);
            }
        }
        Matcher imports = Pattern.compile("import ([^;]*);").matcher(code);
        while (imports.find()) {
            if (!imports.group(1).matches("java\\.util\\.(Arrays|ArrayList|List|Iterator)")) {
                wrong("import " + imports.group(1));
            }
        }
        Matcher library = Pattern.compile("\\b(Arrays|System|Math|Integer|Long|String|List)\\.(\\w+)").matcher(code);
        while (library.find()) {
            if (!LIBRARY.contains(library.group())) {
                wrong("of the library: " + library.group());
            }
        }
        if (code.contains("\"\" +") || code.contains("+ \"\"")) {
            wrong("texts joined by +");
        }
    }
}
