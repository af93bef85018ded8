import java.lang.reflect.InvocationTargetException;
import java.lang.reflect.Method;
import java.lang.reflect.Modifier;
import java.util.ArrayList;
import java.util.Arrays;
import java.util.Comparator;
import java.util.List;
import java.util.Random;
import java.util.Set;

/** Any arguments in any state: nothing is thrown, and what is refused or only asked changes nothing. */
public final class QuietTest {
    private static final Check check = new Check("QuietTest");
    private static final int OBJECTS = 1500, CALLS = 512, TWINS = 4000, CALLS_AHEAD = 100;
    private static final int[] EDGES = {Integer.MIN_VALUE, Integer.MIN_VALUE + 1, -99, -3, -2, -1, 0, 1, 2, 3, 4, 5, 6,
        7, 8, 9, 10, 11, 20, 21, 24, 25, 39, 40, 41, 80, 99, 100, 200, 201, 999, 1000, 9999, Integer.MAX_VALUE - 1,
        Integer.MAX_VALUE};
    private static final String LETTERS = "0123456789+;,~rwsyt ";
    private static final Set<String> ASKED_ONLY = Set.of("of", "rains", "count", "ahead", "leak", "bare", "reach",
        "cover", "relief", "share", "worst", "hot", "bursts", "stains");

    private final Random random;
    private final boolean small;

    private QuietTest(long seed, boolean small) {
        random = new Random(seed);
        this.small = small;
    }

    /** A call with its arguments, so that it can be made of two objects. */
    private record Call(Method method, Object[] values) {
        int of(ThatchCoats x) throws IllegalAccessException {
            try {
                return (Integer) method.invoke(x, values);
            } catch (InvocationTargetException e) {
                check.fail(this + " threw " + e.getCause());
                return 0;
            }
        }

        @Override
        public String toString() {
            return method.getName() + Arrays.toString(values);
        }
    }

    public static void main(String[] args) throws Exception {
        List<Method> methods = new ArrayList<>();
        for (Method m : ThatchCoats.class.getDeclaredMethods()) {
            if (Modifier.isPublic(m.getModifiers())) {
                methods.add(m);
            }
        }
        methods.sort(Comparator.comparing(Method::getName));
        for (int object = 0; object < OBJECTS; object++) {
            new QuietTest(1000 + object, object % 2 == 0).anyCalls(methods);
        }
        for (int twins = 0; twins < TWINS; twins++) {
            new QuietTest(900000 + twins, twins % 4 != 0).oneCallMore(methods);
        }
        slowest();
        check.end();
    }

    private Call anyCall(List<Method> methods, boolean edges) {
        Method m = methods.get(random.nextInt(methods.size()));
        Object[] values = new Object[m.getParameterCount()];
        for (int i = 0; i < values.length; i++) {
            int v = edges ? EDGES[random.nextInt(EDGES.length)] : random.nextInt(8);
            values[i] = m.getParameterTypes()[i] == long.class ? (Object) (long) v : (Object) v;
        }
        if (m.getName().equals("type")) {
            values[0] = (int) LETTERS.charAt(random.nextInt(LETTERS.length()));
        }
        return new Call(m, values);
    }

    private void anyCalls(List<Method> methods) throws Exception {
        ThatchCoats x = new ThatchCoats();
        for (int i = 0; i < CALLS; i++) {
            Call call = anyCall(methods, !small);
            int answer = call.of(x);
            check.due(0, call + ": an answer that the document has", known(call, answer) ? 1 : 0, 1);
        }
    }

    private static boolean known(Call call, int answer) {
        if (answer >= 0 || Set.of(-1, -2, -3, -4, -11, -12, -13, -14).contains(answer)) {
            return true;
        }
        return isRoof(call) && answer <= -20 && answer >= -110;
    }

    private static boolean isRoof(Call call) {
        return call.method.getName().equals("roof");
    }

    /** Of two objects with a like past one has a call more; a fault of roof, which empties the tape, is left out. */
    private void oneCallMore(List<Method> methods) throws Exception {
        ThatchCoats x = new ThatchCoats();
        ThatchCoats y = new ThatchCoats();
        for (int i = random.nextInt(CALLS_AHEAD); i > 0; i--) {
            Call call = anyCall(methods, !small);
            check.due(0, call + ": of two alike", call.of(x), call.of(y));
        }
        Call call = anyCall(methods, random.nextBoolean());
        int answer = call.of(x);
        if (answer < 0 && !isRoof(call) || ASKED_ONLY.contains(call.method.getName())) {
            check.due(0, call + ": all is as it was", Seen.all(x).equals(Seen.all(y)) ? 1 : 0, 1);
        }
    }

    /** The dearest call, over and over, comes to its end. */
    private static void slowest() {
        ThatchCoats x = Check.told("99;r14,r14,r14,r14,r14,r14,r14,r14,r14,r14");
        for (int i = 0; i < 200; i++) {
            check.due(24, "share(6, 20, 9)", x.share(6, 20, 9), 6);
        }
    }
}
