import java.lang.reflect.InvocationTargetException;
import java.lang.reflect.Method;
import java.util.ArrayList;
import java.util.Comparator;
import java.util.List;
import java.util.Random;
import java.util.Set;

/** Any arguments in any state: nothing is thrown, and what is refused changes nothing. */
public final class QuietTest {
    private static final Check check = new Check("QuietTest");
    private static final int OBJECTS = 400, CALLS = 512;
    private static final int[] EDGES = {Integer.MIN_VALUE, Integer.MIN_VALUE + 1, -99, -3, -2, -1, 0, 1, 2, 3, 4, 5, 6,
        7, 8, 9, 10, 11, 20, 21, 24, 25, 39, 40, 41, 80, 99, 100, 200, 201, 999, 1000, 9999, Integer.MAX_VALUE - 1,
        Integer.MAX_VALUE};
    /** Faults empty the tape, so a refusal of roof changes that; the tape is not seen here. */
    private static final String LETTERS = "0123456789+;,~rwsyt ";

    public static void main(String[] args) throws Exception {
        List<Method> methods = new ArrayList<>();
        for (Method m : ThatchCoats.class.getDeclaredMethods()) {
            if (java.lang.reflect.Modifier.isPublic(m.getModifiers())) {
                methods.add(m);
            }
        }
        methods.sort(Comparator.comparing(Method::getName));
        for (int object = 0; object < OBJECTS; object++) {
            run(new Random(1000 + object), methods, object % 2 == 0);
        }
        slowest();
        check.end();
    }

    private static void run(Random random, List<Method> methods, boolean small) throws Exception {
        ThatchCoats x = new ThatchCoats();
        String before = Check.seen(x);
        for (int call = 0; call < CALLS; call++) {
            Method m = methods.get(random.nextInt(methods.size()));
            Object[] values = new Object[m.getParameterCount()];
            for (int i = 0; i < values.length; i++) {
                int v = small ? random.nextInt(8) : EDGES[random.nextInt(EDGES.length)];
                values[i] = m.getParameterTypes()[i] == long.class ? (Object) (long) v : (Object) v;
            }
            if (m.getName().equals("type")) {
                values[0] = (int) LETTERS.charAt(random.nextInt(LETTERS.length()));
            }
            int answer = answer(x, m, values);
            String now = Check.seen(x);
            check.due(0, m.getName() + ": refused, all is as it was", answer < 0 && !now.equals(before) ? 1 : 0, 0);
            check.due(0, m.getName() + ": an answer that the document has", known(m.getName(), answer) ? 1 : 0, 1);
            before = now;
        }
    }

    private static boolean known(String name, int answer) {
        if (answer >= 0 || Set.of(-1, -2, -3, -4, -11, -12, -13, -14).contains(answer)) {
            return true;
        }
        return name.equals("roof") && answer <= -20 && answer >= -110;
    }

    private static int answer(ThatchCoats x, Method m, Object[] values) throws Exception {
        try {
            return (Integer) m.invoke(x, values);
        } catch (InvocationTargetException e) {
            check.fail(m.getName() + java.util.Arrays.toString(values) + " threw " + e.getCause());
            return 0;
        }
    }

    /** The dearest call, over and over, comes to its end. */
    private static void slowest() {
        ThatchCoats x = Check.told("99;r14,r14,r14,r14,r14,r14,r14,r14,r14,r14");
        for (int i = 0; i < 200; i++) {
            check.due(24, "share(6, 20, 9)", x.share(6, 20, 9), 6);
        }
    }
}
