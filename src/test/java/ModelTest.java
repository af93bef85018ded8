import java.util.Random;

/** Random runs of all calls, each answer compared with the model's. The seeds are fixed. */
public final class ModelTest {
    private static final Check check = new Check("ModelTest");
    /** The document says nothing of calls behind the 512th; a look around or a text takes up to 130 at once. */
    private static final int RUNS = 1200, CALLS = 380;
    /** As many calls of 40 years as leave the YEAR within reach of 9999; one run in so many begins by them. */
    private static final int LONG_YEARS = 249, LONG_RUNS = 20;
    private final Random random;
    private int calls = 0;
    private final ThatchCoats x = new ThatchCoats();
    private final Model m = new Model();

    private ModelTest(long seed) {
        random = new Random(seed);
    }

    public static void main(String[] args) {
        for (int run = 0; run < RUNS; run++) {
            new ModelTest(run).run(run);
        }
        check.end();
    }

    private void run(int run) {
        if (run % LONG_RUNS == 0) {
            comeNearTheLastYear(run);
        }
        for (int i = 0; i < CALLS && calls < CALLS; i++) {
            int which = random.nextInt(44);
            if (which < 12) {
                told(run);
            } else if (which < 24) {
                done(run);
            } else if (which < 34) {
                foretold(run);
            } else {
                sheets(run);
            }
        }
    }

    private void comeNearTheLastYear(int run) {
        for (int i = 0; i < LONG_YEARS; i++) {
            if (random.nextBoolean()) {
                due(run, 10, "years 40", x.years(40), m.years(40));
            } else {
                due(run, 15, "drift 40", x.drift(40), m.drift(40));
            }
        }
    }

    /** Mostly low .. high, at times one beside it, or far off. */
    private int near(int low, int high) {
        int odd = random.nextInt(60);
        if (odd == 0) return low - 1;
        if (odd == 1) return high + 1;
        if (odd == 2) return random.nextInt();
        if (odd == 3) return low;
        if (odd == 4) return high;
        return low + random.nextInt(Math.max(1, high - low + 1));
    }

    private int aCoat() {
        return near(0, Math.max(0, m.count(0) - 1));
    }

    private void due(int run, int promise, String call, int got, int want) {
        calls++;
        check.due(promise, "run " + run + ", " + call, got, want);
    }

    private void told(int run) {
        switch (random.nextInt(9)) {
            case 0: {
                int v = random.nextBoolean() ? near(1, 200) : near(20, 80);
                due(run, 2, "walls " + v, x.walls(v), m.walls(v));
                break;
            }
            case 1: {
                int v = near(0, 40);
                due(run, 3, "rain " + v, x.rain(v), m.rain(v));
                break;
            }
            case 2:
                if (random.nextInt(6) == 0) due(run, 4, "dry", x.dry(), m.dry());
                break;
            case 3:
                lookAround(run);
                break;
            case 4: {
                int n = near(0, 40);
                due(run, 6, "rains " + n, x.rains(n), m.rains(n));
                break;
            }
            case 5: {
                int v = near(32, 126);
                due(run, 7, "type " + v, x.type(v), m.type(v));
                break;
            }
            case 6:
                if (random.nextInt(3) == 0) tell(run, aRoof());
                break;
            case 7:
                tell(run, spoilt(aRoof()));
                break;
            default: {
                int v = near(0, 8);
                due(run, 9, "count " + v, x.count(v), m.count(v));
                break;
            }
        }
    }

    private void lookAround(int run) {
        for (int what = 0; what <= 8; what++) {
            due(run, 9, "count " + what, x.count(what), m.count(what));
        }
        for (int coat = 0; coat <= m.count(0); coat++) {
            for (int what = 0; what <= 6; what++) {
                due(run, 5, "of " + coat + " " + what, x.of(coat, what), m.of(coat, what));
            }
        }
    }

    private void tell(int run, String text) {
        due(run, 8, "roof", x.roof(), m.roof());
        for (int i = 0; i < text.length(); i++) {
            due(run, 7, "type", x.type(text.charAt(i)), m.type(text.charAt(i)));
        }
        due(run, 8, "roof of \"" + text + "\"", x.roof(), m.roof());
    }

    private String blanks() {
        return random.nextInt(40) == 0 ? " ".repeat(1 + random.nextInt(2)) : "";
    }

    private String aRoof() {
        StringBuilder s = new StringBuilder(blanks());
        s.append(random.nextInt(60) == 0 ? random.nextInt(120) : 1 + random.nextInt(99)).append(blanks());
        for (int i = random.nextInt(random.nextInt(20) == 0 ? 11 : 6); i > 0; i--) {
            s.append('+').append(blanks()).append(random.nextInt(random.nextInt(20) == 0 ? 44 : 41)).append(blanks());
        }
        int coats = random.nextInt(random.nextInt(20) == 0 ? 12 : 9);
        for (int i = 0; i < coats; i++) {
            s.append(i == 0 ? ';' : ',').append(blanks()).append("rwsyt".charAt(random.nextInt(5))).append(blanks());
            s.append(1 + random.nextInt(random.nextInt(60) == 0 ? 24 : 12)).append(blanks());
            if (random.nextInt(3) == 0) {
                s.append('~').append(blanks()).append(random.nextInt(10)).append(blanks());
            }
        }
        return s.toString();
    }

    private String spoilt(String text) {
        StringBuilder s = new StringBuilder(text);
        String letters = "+;,~ rwsyt0123456789Rx";
        for (int i = random.nextInt(2); i >= 0; i--) {
            int at = random.nextInt(s.length() + 1);
            char c = letters.charAt(random.nextInt(letters.length()));
            switch (random.nextInt(4)) {
                case 0: s.insert(at, c); break;
                case 1: s.setLength(at); break;
                case 2: if (at < s.length()) s.deleteCharAt(at); break;
                default: if (at < s.length()) s.setCharAt(at, c); break;
            }
        }
        return s.toString();
    }

    private void done(int run) {
        switch (random.nextInt(12)) {
            case 0: {
                int n = random.nextInt(4) == 0 ? near(1, 40) : near(1, 4);
                due(run, 10, "years " + n, x.years(n), m.years(n));
                break;
            }
            case 1: case 2: case 3: case 4: {
                int kind = near(0, 4);
                int thick = near(1, 20);
                due(run, 11, "lay " + kind + " " + thick, x.lay(kind, thick), m.lay(kind, thick));
                break;
            }
            case 5: {
                int n = random.nextInt(4) == 0 ? near(1, 10) : 1;
                due(run, 12, "strip " + n, x.strip(n), m.strip(n));
                break;
            }
            case 6: {
                int coat = aCoat();
                int n = near(1, random.nextBoolean() ? 20 : 5);
                due(run, 13, "pull " + coat + " " + n, x.pull(coat, n), m.pull(coat, n));
                break;
            }
            case 7: {
                int heat = near(0, random.nextInt(4) == 0 ? 999 : 30);
                due(run, 14, "fire " + heat, x.fire(heat), m.fire(heat));
                break;
            }
            case 8: {
                int n = random.nextInt(4) == 0 ? near(1, 40) : near(1, 4);
                due(run, 15, "drift " + n, x.drift(n), m.drift(n));
                break;
            }
            case 9: case 10:
                due(run, 16, "undo", x.undo(), m.undo());
                break;
            default: {
                int v = near(0, Integer.MAX_VALUE - 1);
                due(run, 17, "seed " + v, x.seed(v), m.seed(v));
                break;
            }
        }
    }

    private void foretold(int run) {
        switch (random.nextInt(12)) {
            case 0: {
                int n = near(0, 40);
                int what = near(0, 2);
                due(run, 18, "ahead " + n + " " + what, x.ahead(n, what), m.ahead(n, what));
                break;
            }
            case 1:
                due(run, 19, "leak", x.leak(), m.leak());
                break;
            case 2:
                due(run, 20, "bare", x.bare(), m.bare());
                break;
            case 3: {
                int v = near(-1, 99);
                due(run, 21, "reach " + v, x.reach(v), m.reach(v));
                break;
            }
            case 4: {
                int kind = near(0, 4);
                int n = near(1, 20);
                due(run, 22, "cover " + kind + " " + n, x.cover(kind, n), m.cover(kind, n));
                break;
            }
            case 5: {
                int n = near(1, 20);
                int what = near(0, 1);
                due(run, 23, "relief " + n + " " + what, x.relief(n, what), m.relief(n, what));
                break;
            }
            case 6:
                shares(run);
                break;
            case 7: {
                int what = near(0, 1);
                due(run, 25, "worst " + what, x.worst(what), m.worst(what));
                break;
            }
            case 8: {
                int k = near(1, Math.max(1, m.count(0)));
                due(run, 26, "hot " + k, x.hot(k), m.hot(k));
                break;
            }
            case 9: {
                int n = near(0, 6);
                int c = near(0, 10);
                int what = near(0, 1);
                due(run, 27, "bursts " + n + " " + c + " " + what, x.bursts(n, c, what), m.bursts(n, c, what));
                break;
            }
            case 10:
                due(run, 28, "image", x.image(), m.image());
                break;
            default:
                if (random.nextInt(3) == 0) due(run, 29, "restore", x.restore(), m.restore());
                break;
        }
    }

    private void shares(int run) {
        int s = near(0, random.nextInt(4) == 0 ? 6 : 3);
        int n = near(1, 20);
        int k = near(-2, Math.max(0, m.count(0) - 1));
        due(run, 24, "share " + s + " " + n + " " + k, x.share(s, n, k), m.share(s, n, k));
    }

    private void sheets(int run) {
        int sheet = near(0, 3);
        int lane = random.nextInt(8) == 0 ? near(0, 3) : 2;
        switch (random.nextInt(7)) {
            case 0: {
                int n = near(0, 24);
                due(run, 32, "sheet " + sheet + " " + lane + " " + n, x.sheet(sheet, lane, n), m.sheet(sheet, lane, n));
                break;
            }
            case 1:
                if (random.nextInt(3) == 0) due(run, 33, "drop " + sheet, x.drop(sheet), m.drop(sheet));
                break;
            case 2: {
                int i = near(0, 12);
                long v = random.nextBoolean() ? random.nextInt(41) : random.nextLong();
                due(run, 34, "item " + i + " " + v, x.item(sheet, lane, i, v), m.item(sheet, lane, i, v));
                break;
            }
            case 3: {
                int to = near(0, 3);
                int i = near(0, 8);
                int j = near(0, 8);
                int n = near(0, 8);
                due(run, 35, "copy " + i + " " + j + " " + n, x.copy(sheet, i, to, j, n), m.copy(sheet, i, to, j, n));
                break;
            }
            case 4: {
                int n = near(1, random.nextBoolean() ? 24 : 8);
                int i = near(0, 8);
                due(run, 31, "film " + n + " " + i, x.film(n, sheet, lane, i), m.film(n, sheet, lane, i));
                break;
            }
            default:
                stains(run, sheet, lane);
                break;
        }
    }

    private void stains(int run, int sheet, int lane) {
        int n = near(1, 8);
        int i = near(0, 8);
        if (random.nextBoolean()) {
            due(run, 31, "film " + n + " " + i, x.film(n, sheet, lane, i), m.film(n, sheet, lane, i));
        }
        int coat = aCoat();
        int what = near(0, 1);
        due(run, 30, "stains " + coat + " " + n + " " + what,
            x.stains(coat, sheet, lane, i, n, what), m.stains(coat, sheet, lane, i, n, what));
    }
}
