import java.io.IOException;
import java.lang.reflect.Constructor;
import java.lang.reflect.Field;
import java.lang.reflect.Method;
import java.lang.reflect.Modifier;
import java.nio.file.Files;
import java.nio.file.Path;
import java.util.Arrays;
import java.util.Set;
import java.util.TreeSet;
import java.util.regex.Matcher;
import java.util.regex.Pattern;

/** The public face is the document's and no other; the text keeps to what LANGUAGE.md leaves. */
public final class FaceTest {
    private static final Check check = new Check("FaceTest");
    private static final String[] METHODS = {
        "walls(int)", "rain(int)", "dry()", "of(int,int)", "rains(int)", "type(int)", "roof()", "count(int)",
        "years(int)", "lay(int,int)", "strip(int)", "pull(int,int)", "fire(int)", "drift(int)", "undo()", "seed(int)",
        "ahead(int,int)", "leak()", "bare()", "reach(int)", "cover(int,int)", "relief(int,int)", "share(int,int,int)",
        "worst(int)", "hot(int)", "bursts(int,int,int)", "image()", "restore()", "stains(int,int,int,int,int,int)",
        "film(int,int,int,int)", "sheet(int,int,int)", "drop(int)", "item(int,int,int,long)",
        "copy(int,int,int,int,int)"};
    private static final String[] CONSTANTS = {"BAD", "NOT", "FULL", "NONE", "NULL", "CAST", "INDEX", "SIZE"};
    private static final int[] VALUES = {-1, -2, -3, -4, -11, -12, -13, -14};
    private static final int MOST_CLASSES = 12, MOST_FIELDS = 20, MOST_PARAMETERS = 7, MOST_LINES = 60;

    public static void main(String[] args) throws Exception {
        methods();
        constants();
        classes();
        text();
        check.end();
    }

    private static void methods() {
        Class<?> c = ThatchCoats.class;
        check.due(1, "public and final", c.getModifiers() & (Modifier.PUBLIC | Modifier.FINAL),
            Modifier.PUBLIC | Modifier.FINAL);
        Set<String> found = new TreeSet<>();
        Set<String> names = new TreeSet<>();
        for (Method m : c.getDeclaredMethods()) {
            String types = Arrays.toString(m.getParameterTypes()).replaceAll("[\\[\\] ]", "");
            if (Modifier.isPrivate(m.getModifiers())) {
                names.add(m.getName());
                continue;
            }
            check.due(1, m.getName() + " is public and answers an int",
                Modifier.isPublic(m.getModifiers()) && m.getReturnType() == int.class ? 1 : 0, 1);
            found.add(m.getName() + "(" + types + ")");
        }
        Set<String> want = new TreeSet<>(Arrays.asList(METHODS));
        if (!found.equals(want)) {
            check.fail("the face is " + found + ", due is " + want);
        }
        for (String method : METHODS) {
            if (names.contains(method.substring(0, method.indexOf('(')))) {
                check.fail("rule 1: a private method bears the name of " + method);
            }
        }
        Constructor<?>[] constructors = c.getDeclaredConstructors();
        check.due(1, "constructors", constructors.length, 1);
        check.due(1, "its parameters", constructors[0].getParameterCount(), 0);
    }

    private static void constants() throws Exception {
        for (int i = 0; i < CONSTANTS.length; i++) {
            check.due(1, CONSTANTS[i], ThatchCoats.class.getField(CONSTANTS[i]).getInt(null), VALUES[i]);
        }
        check.due(1, "public fields", ThatchCoats.class.getFields().length, CONSTANTS.length);
    }

    private static void classes() {
        Class<?>[] inside = ThatchCoats.class.getDeclaredClasses();
        check.due(1, "rule 11: not too many classes", inside.length + 1 <= MOST_CLASSES ? 1 : 0, 1);
        for (Class<?> c : inside) {
            if (Modifier.isPublic(c.getModifiers()) || Modifier.isProtected(c.getModifiers())
                    || !Modifier.isStatic(c.getModifiers())) {
                check.fail("rule 1: " + c.getName());
            }
            looks(c);
        }
        looks(ThatchCoats.class);
    }

    private static void looks(Class<?> c) {
        int fields = 0;
        for (Field f : c.getDeclaredFields()) {
            boolean fixed = Modifier.isStatic(f.getModifiers());
            fields += fixed ? 0 : 1;
            if (fixed && !Modifier.isFinal(f.getModifiers())) {
                check.fail("rule 5: " + f);
            }
            if (c == ThatchCoats.class && !Modifier.isPrivate(f.getModifiers())
                    && !Modifier.isPublic(f.getModifiers())) {
                check.fail("rule 1: " + f);
            }
        }
        check.due(1, "rule 11: not too many fields in " + c, fields <= MOST_FIELDS ? 1 : 0, 1);
        for (Method m : c.getDeclaredMethods()) {
            check.due(1, "rule 11: not too many parameters in " + m, m.getParameterCount() <= MOST_PARAMETERS ? 1 : 0, 1);
        }
    }

    private static void text() throws IOException {
        String text = Files.readString(Path.of("src/main/java/ThatchCoats.java"));
        for (int i = 0; i < text.length(); i++) {
            if (text.charAt(i) > 126) {
                check.fail("a sign above 126 at " + i);
            }
        }
        String code = text.replaceAll("(?s)/\\*.*?\\*/", "").replaceAll("//[^\n]*", "");
        String[] never = {"import ", "package ", "->", "::", "catch", "try ", "throw", "finally", "synchronized",
            "assert", "instanceof", "static {", "double", "float", "Exact", "String", "Integer.MAX", "hashCode",
            "equals", "toString"};
        for (String word : never) {
            if (code.contains(word)) {
                check.fail("the text holds " + word);
            }
        }
        library(code);
        lengths(code);
        madeOnce(text);
    }

    private static void library(String code) {
        Set<String> allowed = Set.of("System.arraycopy", "Math.max", "Math.min", "Integer.bitCount");
        Matcher m = Pattern.compile("\\b(System|Math|Integer|Long|Arrays)\\.\\w+").matcher(code);
        while (m.find()) {
            if (!allowed.contains(m.group())) {
                check.fail("rule 4: " + m.group());
            }
        }
    }

    private static void lengths(String code) {
        int start = 0;
        int number = 0;
        for (String line : code.split("\n")) {
            number++;
            if (line.matches("\\s+(public |private |static )*\\w+(\\[\\])? ?\\w*\\(.*\\) \\{") && !line.contains("if (")) {
                start = number;
            }
            if (line.matches(" {4}( {4})?\\}") && start > 0 && number - start > MOST_LINES) {
                check.fail("rule 11: a long method ends at line " + number);
            }
        }
    }

    /** All calls of a run live in one room: nothing is made but with the object itself. */
    private static void madeOnce(String text) {
        for (String line : text.split("\n")) {
            boolean withTheObject = line.matches("\\s+(private )?final .*") || line.matches("\\s+(sheets|past)\\[i\\] = .*");
            if (line.contains("= new ") && !withTheObject || line.contains("return new ")) {
                check.fail("made in a call: " + line.trim());
            }
        }
    }
}
