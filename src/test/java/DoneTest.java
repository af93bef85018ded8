/** Promises 10 to 17: years, coats laid, stripped, drawn out, burnt, by draws, undone. */
public final class DoneTest {
    private static final Check check = new Check("DoneTest");

    public static void main(String[] args) {
        years();
        yearsToTheLast();
        damp();
        lay();
        strip();
        pull();
        fire();
        drift();
        undo();
        undoOfEach();
        seed();
        check.end();
    }

    private static void coat(ThatchCoats x, int promise, int coat, int kind, int thick, int damp) {
        check.due(promise, "of(" + coat + ", 0)", x.of(coat, 0), kind);
        check.due(promise, "of(" + coat + ", 1)", x.of(coat, 1), thick);
        check.due(promise, "of(" + coat + ", 2)", x.of(coat, 2), damp);
    }

    private static void years() {
        ThatchCoats x = Check.told("45+12+20;w6,s2~0,r1");
        check.due(10, "years(0)", x.years(0), ThatchCoats.BAD);
        check.due(10, "years(41)", x.years(41), ThatchCoats.BAD);
        check.due(10, "years(-1)", x.years(-1), ThatchCoats.BAD);
        // 12: r takes 1, s 4, w 3: 4 leak; r is gone
        check.due(10, "years(1)", x.years(1), 4);
        check.due(10, "count(0)", x.count(0), 2);
        coat(x, 10, 0, 1, 6, 1);
        coat(x, 10, 1, 2, 2, 2);
        // 20: s takes 2, w 3: 15 leak; 12: s takes 1, w 3: 8 leak, s is gone
        check.due(10, "years(2)", x.years(2), 15 + 8);
        check.due(10, "count(0)", x.count(0), 1);
        coat(x, 10, 0, 1, 6, 3);
        check.due(10, "count(4)", x.count(4), 27);
        check.due(10, "count(3)", x.count(3), 3);
        check.due(10, "count(8)", x.count(8), 3);
    }

    private static void yearsToTheLast() {
        ThatchCoats x = new ThatchCoats();
        x.rain(1);
        for (int i = 0; i < 249; i++) {
            x.years(40);
        }
        check.due(10, "count(3)", x.count(3), 9960);
        check.due(10, "years(40)", x.years(40), ThatchCoats.FULL);
        check.due(15, "drift(40)", x.drift(40), ThatchCoats.FULL);
        check.due(10, "years(41), BAD ahead of FULL", x.years(41), ThatchCoats.BAD);
        check.due(10, "years(38)", x.years(38), 38);
        check.due(15, "drift(2)", x.drift(2), ThatchCoats.FULL);
        check.due(10, "years(1)", x.years(1), 1);
        check.due(10, "count(3)", x.count(3), 9999);
        check.due(10, "count(4)", x.count(4), 9999);
        check.due(10, "years(1) in the last", x.years(1), ThatchCoats.FULL);
        check.due(15, "drift(1) in the last", x.drift(1), ThatchCoats.FULL);
        check.due(15, "drift(0), BAD ahead of FULL", x.drift(0), ThatchCoats.BAD);
        check.due(18, "ahead(40, 1) beyond the last", x.ahead(40, 1), 9999 + 40);
    }

    private static void damp() {
        // r20 takes all 1 of 1: damp by 0 more; w9~1 below took nothing: 2 less, 0 at least
        ThatchCoats x = Check.told("45+1;w9~1,w8~7,r20~5");
        x.years(1);
        coat(x, 10, 0, 1, 9, 0);
        coat(x, 10, 1, 1, 8, 5);
        coat(x, 10, 2, 0, 19, 5);
        x = Check.told("45+40;r20~3");
        x.years(1);
        coat(x, 10, 0, 0, 19, 9);
        // w1 takes nothing though water comes to it
        x = Check.told("45+5;r9,w1~6,w1~6");
        x.years(1);
        check.due(10, "count(0)", x.count(0), 2);
        coat(x, 10, 1, 1, 1, 4);
        coat(x, 10, 0, 0, 9, 2);
        // what a coat takes is told by how all is ahead of the YEAR: TURF is dry then
        x = Check.told("45+9;t1,t1");
        check.due(10, "years(1) under turf", x.years(1), 0);
        check.due(10, "of(0, 2)", x.of(0, 2), 1);
        // RYE by odd YEARS
        x = Check.told("45+9;y4");
        check.due(10, "years(1) under rye", x.years(1), 7);
        check.due(10, "years(1) under rye, odd", x.years(1), 7);
        check.due(10, "years(1) under rye, even", x.years(1), 8);
        check.due(10, "years(1) under rye, odd", x.years(1), 8);
        check.due(10, "years(1) under nothing", x.years(1), 9);
    }

    private static void lay() {
        ThatchCoats x = Check.told("10;r5~9");
        check.due(11, "lay(-1, 1)", x.lay(-1, 1), ThatchCoats.BAD);
        check.due(11, "lay(5, 1)", x.lay(5, 1), ThatchCoats.BAD);
        check.due(11, "lay(0, 0)", x.lay(0, 0), ThatchCoats.BAD);
        check.due(11, "lay(0, 21)", x.lay(0, 21), ThatchCoats.BAD);
        check.due(11, "lay(4, 7): the damp is heavy too", x.lay(4, 7), ThatchCoats.NOT);
        check.due(11, "count(8)", x.count(8), 0);
        check.due(11, "lay(4, 6)", x.lay(4, 6), 1);
        coat(x, 11, 1, 4, 6, 0);
        check.due(11, "lay(4, 1)", x.lay(4, 1), ThatchCoats.NOT);
        x.walls(200);
        for (int i = 2; i < 10; i++) {
            check.due(11, "lay(2, 20)", x.lay(i % 5, 20), i);
        }
        check.due(11, "lay(2, 1): an eleventh", x.lay(2, 1), ThatchCoats.FULL);
        check.due(11, "lay(2, 0): BAD ahead of FULL", x.lay(2, 0), ThatchCoats.BAD);
        x.walls(1);
        check.due(11, "lay(2, 1): FULL ahead of NOT", x.lay(2, 1), ThatchCoats.FULL);
    }

    private static void strip() {
        ThatchCoats x = Check.told("45;r1,w2,s3,y4,t5");
        check.due(12, "strip(0)", x.strip(0), ThatchCoats.BAD);
        check.due(12, "strip(11)", x.strip(11), ThatchCoats.BAD);
        check.due(12, "strip(6)", x.strip(6), ThatchCoats.NOT);
        check.due(12, "strip(10)", x.strip(10), ThatchCoats.NOT);
        check.due(12, "strip(2)", x.strip(2), 3);
        coat(x, 12, 2, 2, 3, 0);
        check.due(12, "of(3, 0)", x.of(3, 0), ThatchCoats.BAD);
        check.due(12, "strip(3)", x.strip(3), 0);
        check.due(12, "strip(1)", x.strip(1), ThatchCoats.NOT);
    }

    private static void pull() {
        ThatchCoats x = Check.told("45;r9~4,w20");
        check.due(13, "pull(-1, 1)", x.pull(-1, 1), ThatchCoats.BAD);
        check.due(13, "pull(2, 1)", x.pull(2, 1), ThatchCoats.BAD);
        check.due(13, "pull(0, 0)", x.pull(0, 0), ThatchCoats.BAD);
        check.due(13, "pull(0, 21)", x.pull(0, 21), ThatchCoats.BAD);
        check.due(13, "pull(0, 3)", x.pull(0, 3), 6);
        coat(x, 13, 0, 0, 6, 4);
        coat(x, 13, 1, 1, 20, 0);
        check.due(13, "pull(0, 6)", x.pull(0, 6), 1);
        check.due(13, "pull(0, 1)", x.pull(0, 1), ThatchCoats.NOT);
        check.due(13, "pull(0, 21): BAD ahead of NOT", x.pull(0, 21), ThatchCoats.BAD);
        check.due(13, "pull(1, 19)", x.pull(1, 19), 1);
        check.due(13, "count(8)", x.count(8), 3);
    }

    private static void fire() {
        check.due(14, "fire(-1)", new ThatchCoats().fire(-1), ThatchCoats.BAD);
        check.due(14, "fire(1000)", new ThatchCoats().fire(1000), ThatchCoats.BAD);
        check.due(14, "fire(999) of nothing", new ThatchCoats().fire(999), 0);
        String text = "99;r5,w9~7,s4~6,y3";
        int[][] heatAndBurnt = {{0, 0}, {2, 0}, {3, 1}, {12, 1}, {13, 2}, {999, 2}};
        for (int[] pair : heatAndBurnt) {
            ThatchCoats x = Check.told(text);
            check.due(14, "fire(" + pair[0] + ")", x.fire(pair[0]), pair[1]);
            check.due(14, "count(0)", x.count(0), 4 - pair[1]);
            check.due(14, "count(8): also if nothing burns", x.count(8), 1);
        }
        // it stops at the first that is too much, whatever lies below
        check.due(14, "fire(8)", Check.told("45;r1,r9").fire(8), 0);
        check.due(14, "fire(10)", Check.told("45;r1,r9").fire(10), 2);
    }

    private static void drift() {
        ThatchCoats x = Check.told("45+4;r9,w9,s9");
        check.due(15, "drift(0)", x.drift(0), ThatchCoats.BAD);
        check.due(15, "drift(41)", x.drift(41), ThatchCoats.BAD);
        // 1 becomes 1103527590: by 65536 it is 16838, left over by 3 is 2: nothing is drawn out
        check.due(15, "drift(1)", x.drift(1), 0);
        check.due(15, "seed", x.seed(1103527590), 1103527590);
        coat(x, 15, 0, 0, 9, 0);
        coat(x, 15, 1, 1, 9, 0);
        coat(x, 15, 2, 2, 8, 2);
        driftByHand(1, 40);
        driftByHand(4711, 40);
        driftByHand(0, 40);
        driftByHand(Integer.MAX_VALUE, 40);
        // where nothing is left, THE DRAW goes on
        ThatchCoats y = new ThatchCoats();
        y.rain(3);
        check.due(15, "drift(3) without coats", y.drift(3), 9);
        long draw = 1;
        for (int i = 0; i < 3; i++) {
            draw = draw * 1103515245 + 12345 & 0x7fffffff;
        }
        check.due(15, "THE DRAW", y.seed(0), draw);
    }

    /** The same by pulls and single years. */
    private static void driftByHand(int seed, int n) {
        ThatchCoats x = Check.told("45+12+3+25+0;r4~2,w7,s3,y6~1,t2,r3~8,w5");
        ThatchCoats y = Check.told("45+12+3+25+0;r4~2,w7,s3,y6~1,t2,r3~8,w5");
        x.seed(seed);
        long draw = seed;
        int leaks = 0;
        for (int i = 0; i < n; i++) {
            draw = (draw * 1103515245L + 12345L) % 2147483648L;
            int coats = y.count(0);
            if (draw / 65536 % 3 == 0 && coats > 0) {
                y.pull((int) (draw / 128 % coats), 1);
            }
            leaks += y.years(1);
        }
        check.due(15, "drift(" + n + ") from seed " + seed, x.drift(n), leaks);
        check.due(15, "count(8)", x.count(8), 8);
        x.seed(0);
        y.seed(0);
        check.due(15, "count(0)", x.count(0), y.count(0));
        check.due(15, "count(4)", x.count(4), y.count(4));
        check.due(15, "count(5)", x.count(5), y.count(5));
        for (int i = 0; i < y.count(0); i++) {
            coat(x, 15, i, y.of(i, 0), y.of(i, 1), y.of(i, 2));
        }
    }

    private static void undo() {
        ThatchCoats x = Check.told("45+12+3;r4~2,w7,s3");
        check.due(16, "undo()", x.undo(), ThatchCoats.NONE);
        String[] seen = new String[13];
        for (int i = 0; i <= 12; i++) {
            seen[i] = Seen.house(x);
            x.years(1);
        }
        check.due(16, "count(8)", x.count(8), 8);
        for (int i = 7; i >= 0; i--) {
            check.due(16, "undo()", x.undo(), i);
            check.due(16, "count(3)", x.count(3), 13 - (8 - i));
        }
        check.due(16, "undo(): older ones are lost", x.undo(), ThatchCoats.NONE);
        // one call of several YEARS may be undone by each
        x = Check.told("45+12+3;r4~2,w7,s3");
        x.years(3);
        x.drift(2);
        check.due(16, "undo()", x.undo(), 4);
        check.due(16, "undo()", x.undo(), 3);
        check.due(16, "count(3)", x.count(3), 3);
        check.due(16, "undo()", x.undo(), 2);
        check.due(16, "undo()", x.undo(), 1);
        check.due(16, "undo()", x.undo(), 0);
        if (!seen[0].equals(Seen.house(x))) {
            check.fail("promise 16: all undone is not as it was: " + Seen.house(x));
        }
    }

    private static void undoOfEach() {
        ThatchCoats x = Check.told("45+12+3;r4~2,w7,s3");
        x.years(2);
        x.undo();
        for (int what = 0; what < 6; what++) {
            String before = Seen.house(x);
            int known = x.count(8);
            switch (what) {
                case 0: x.years(1); break;
                case 1: x.lay(3, 9); break;
                case 2: x.strip(2); break;
                case 3: x.pull(1, 5); break;
                case 4: x.fire(99); break;
                default: x.drift(1); break;
            }
            check.due(16, "count(8) behind " + what, x.count(8), known + 1);
            x.seed(99);
            check.due(16, "undo() of " + what, x.undo(), known);
            if (!before.equals(Seen.house(x))) {
                check.fail("promise 16: undone " + what + " is not as it was");
            }
        }
        laidAsItWas();
        // walls and rains told since stay; refusals leave nothing to be undone
        x.strip(1);
        x.walls(33);
        x.rain(9);
        x.strip(9);
        x.lay(9, 9);
        x.pull(0, 0);
        x.fire(-1);
        x.years(0);
        x.drift(0);
        check.due(16, "undo()", x.undo(), 1);
        check.due(16, "count(0)", x.count(0), 3);
        check.due(16, "count(1): walls stay", x.count(1), 33);
        check.due(16, "count(2): rains stay", x.count(2), 3);
    }

    private static void laidAsItWas() {
        ThatchCoats x = new ThatchCoats();
        x.years(2);
        x.lay(1, 9);
        x.image();
        x.years(1);
        x.strip(1);
        x.lay(1, 9);
        check.due(16, "of(0, 3)", x.of(0, 3), 3);
        x.undo();
        x.undo();
        check.due(16, "of(0, 3) is as it was", x.of(0, 3), 2);
        x.strip(1);
        x.lay(1, 9);
        x.restore();
        check.due(29, "of(0, 3) is as it was", x.of(0, 3), 2);
    }

    private static void seed() {
        ThatchCoats x = new ThatchCoats();
        check.due(17, "seed(-1)", x.seed(-1), ThatchCoats.BAD);
        check.due(17, "seed(MIN)", x.seed(Integer.MIN_VALUE), ThatchCoats.BAD);
        check.due(17, "seed(0)", x.seed(0), 1);
        check.due(17, "seed(MAX)", x.seed(Integer.MAX_VALUE), 0);
        check.due(17, "seed(7)", x.seed(7), Integer.MAX_VALUE);
        check.due(17, "count(8): nothing to be undone", x.count(8), 0);
    }
}
