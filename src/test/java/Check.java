/** What the tests share: answers that are due, and roofs told by a text. */
final class Check {
    private final String test;
    private int asked = 0;
    private int wrong = 0;

    Check(String test) {
        this.test = test;
    }

    void due(int promise, String call, long got, long want) {
        asked++;
        if (got != want) {
            fail("promise " + promise + ": " + call + " answered " + got + ", due is " + want);
        }
    }

    int asked() {
        return asked;
    }

    void fail(String text) {
        wrong++;
        if (wrong <= 40) {
            System.out.println(test + ": " + text);
        }
    }

    void end() {
        System.out.println(test + ": " + asked + " answers, " + wrong + " wrong");
        if (wrong != 0) {
            System.exit(1);
        }
    }

    static void type(ThatchCoats x, String text) {
        for (int i = 0; i < text.length(); i++) {
            x.type(text.charAt(i));
        }
    }

    static int roof(ThatchCoats x, String text) {
        type(x, text);
        return x.roof();
    }

    static ThatchCoats told(String text) {
        ThatchCoats x = new ThatchCoats();
        int answer = roof(x, text);
        if (answer < 0) {
            throw new IllegalStateException("the test's own text has a fault: " + text + ": " + answer);
        }
        return x;
    }
}
