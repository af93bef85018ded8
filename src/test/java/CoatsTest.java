/** Promises 1 to 9: walls, rains, coats, roofs as texts. */
public final class CoatsTest {
    private static final Check check = new Check("CoatsTest");

    public static void main(String[] args) {
        newObject();
        walls();
        rainAndDry();
        of();
        rains();
        type();
        roofsThatStand();
        roofsWithFaults();
        roofInPlaceOfAll();
        count();
        check.end();
    }

    private static void newObject() {
        ThatchCoats x = new ThatchCoats();
        int[] want = {0, 80, 0, 0, 0, 0, 0, 1, 0};
        for (int what = 0; what < want.length; what++) {
            check.due(1, "count(" + what + ")", x.count(what), want[what]);
        }
        check.due(1, "rains(0)", x.rains(0), 0);
        check.due(1, "seed(5): the draw is 1 at first", x.seed(5), 1);
        check.due(1, "undo()", x.undo(), ThatchCoats.NONE);
        check.due(1, "restore()", x.restore(), ThatchCoats.NONE);
        for (int sheet = 0; sheet < 4; sheet++) {
            check.due(1, "drop(" + sheet + ")", x.drop(sheet), ThatchCoats.NULL);
        }
        check.due(1, "roof(): the tape is empty", x.roof(), -20);
    }

    private static void walls() {
        ThatchCoats x = new ThatchCoats();
        check.due(2, "walls(1)", x.walls(1), 80);
        check.due(2, "walls(200)", x.walls(200), 1);
        check.due(2, "walls(0)", x.walls(0), ThatchCoats.BAD);
        check.due(2, "walls(201)", x.walls(201), ThatchCoats.BAD);
        check.due(2, "walls(MIN)", x.walls(Integer.MIN_VALUE), ThatchCoats.BAD);
        check.due(2, "count(1)", x.count(1), 200);
    }

    private static void rainAndDry() {
        ThatchCoats x = new ThatchCoats();
        check.due(3, "rain(-1)", x.rain(-1), ThatchCoats.BAD);
        check.due(3, "rain(41)", x.rain(41), ThatchCoats.BAD);
        check.due(4, "dry()", x.dry(), 0);
        for (int i = 1; i <= 8; i++) {
            check.due(3, "rain " + i, x.rain(i == 1 ? 0 : i == 2 ? 40 : i), i);
        }
        check.due(3, "rain(3), a ninth", x.rain(3), ThatchCoats.FULL);
        check.due(3, "rain(41), BAD ahead of FULL", x.rain(41), ThatchCoats.BAD);
        check.due(3, "rains(0)", x.rains(0), 0);
        check.due(3, "rains(1)", x.rains(1), 40);
        check.due(3, "rains(7)", x.rains(7), 8);
        check.due(3, "rains(8)", x.rains(8), 0);
        check.due(4, "dry()", x.dry(), 8);
        check.due(4, "count(2)", x.count(2), 0);
        check.due(4, "rains(1)", x.rains(1), 0);
        check.due(4, "dry() again", x.dry(), 0);
    }

    private static void of() {
        ThatchCoats x = Check.told("40;r5,w7~3,s4,s4~1,y7,t3,t3~2");
        int[][] want = {
            {0, 5, 0, 0, 5, 3 + 6 + 4 + 3 + 10 + 6}, {1, 7, 3, 0, 3, 6 + 4 + 3 + 10 + 6},
            {2, 4, 0, 0, 6, 4 + 3 + 10 + 6}, {2, 4, 1, 0, 4, 3 + 10 + 6},
            {3, 7, 0, 0, 3, 10 + 6}, {4, 3, 0, 0, 10, 6}, {4, 3, 2, 0, 6, 0}};
        for (int coat = 0; coat < want.length; coat++) {
            for (int what = 0; what < 6; what++) {
                check.due(5, "of(" + coat + ", " + what + ")", x.of(coat, what), want[coat][what]);
            }
        }
        check.due(5, "of(-1, 0)", x.of(-1, 0), ThatchCoats.BAD);
        check.due(5, "of(7, 0)", x.of(7, 0), ThatchCoats.BAD);
        check.due(5, "of(0, -1)", x.of(0, -1), ThatchCoats.BAD);
        check.due(5, "of(0, 6)", x.of(0, 6), ThatchCoats.BAD);
        x.strip(2);
        x.years(1);
        check.due(5, "of(4, 4): RYE in an odd YEAR", x.of(4, 4), 6 / 2 + 1);
        x.years(1);
        check.due(5, "of(4, 4): RYE in an even YEAR", x.of(4, 4), 5 / 2);
        x.lay(0, 1);
        check.due(5, "of(5, 3): LAID in YEAR 2", x.of(5, 3), 2);
        check.due(5, "of(4, 3): LAID in YEAR 0", x.of(4, 3), 0);
        x = Check.told("99;r1,r2,r3,r4,r5,r6,r7,r8,r9,r10");
        check.due(5, "of(9, 5) of ten", x.of(9, 5), 0);
        check.due(5, "of(0, 5) of ten", x.of(0, 5), 54);
        x.strip(4);
        check.due(5, "of(0, 5): what is gone takes nothing", x.of(0, 5), 20);
        check.due(5, "of(6, 1)", x.of(6, 1), ThatchCoats.BAD);
    }

    private static void rains() {
        ThatchCoats x = Check.told("9+7+0+40");
        int[] want = {7, 0, 40};
        for (int n = 0; n <= 40; n++) {
            check.due(6, "rains(" + n + ")", x.rains(n), want[n % 3]);
        }
        check.due(6, "rains(-1)", x.rains(-1), ThatchCoats.BAD);
        check.due(6, "rains(41)", x.rains(41), ThatchCoats.BAD);
        x.years(2);
        check.due(6, "rains(0) in YEAR 2", x.rains(0), 40);
        check.due(6, "rains(2) in YEAR 2", x.rains(2), 0);
        x.rain(11);
        check.due(6, "rains(1) in YEAR 2, 4 RAINS", x.rains(1), 11);
    }

    private static void type() {
        ThatchCoats x = new ThatchCoats();
        check.due(7, "type(31)", x.type(31), ThatchCoats.BAD);
        check.due(7, "type(127)", x.type(127), ThatchCoats.BAD);
        check.due(7, "type(-1)", x.type(-1), ThatchCoats.BAD);
        check.due(7, "type(65536 + 57)", x.type(65536 + 57), ThatchCoats.BAD);
        for (int i = 1; i <= 89; i++) {
            check.due(7, "type(32), the " + i + "th", x.type(32), i);
        }
        check.due(7, "type(126), the 90th", x.type(126), 90);
        check.due(7, "type(57), one more", x.type(57), ThatchCoats.FULL);
        check.due(7, "type(31), BAD ahead of FULL", x.type(31), ThatchCoats.BAD);
        check.due(7, "roof()", x.roof(), -20 - 89);
        check.due(7, "type(57), on an empty tape", x.type(57), 1);
    }

    private static void roofsThatStand() {
        check.due(8, "1", Check.roof(new ThatchCoats(), "1"), 0);
        check.due(8, "01: two digits", Check.roof(new ThatchCoats(), "01"), 0);
        check.due(8, "99+0+00+40", Check.roof(new ThatchCoats(), "99+0+00+40"), 0);
        check.due(8, "a coat without rains", Check.roof(new ThatchCoats(), "7;t20~9"), 1);
        check.due(8, "ten coats", Check.roof(new ThatchCoats(), "1;r1,w2,s3,y4,t5,r6,w7,s8,y9,t10"), 10);
        check.due(8, "a blank behind ten", Check.roof(new ThatchCoats(), "1;r1,r1,r1,r1,r1,r1,r1,r1,r1,r1~1 "), 10);
        check.due(8, "a letter behind ten",
            Check.roof(new ThatchCoats(), "1;r1,r1,r1,r1,r1,r1,r1,r1,r1,r1~1 ~"), -20 - 34);
        check.due(8, "blanks", Check.roof(new ThatchCoats(), "  9 + 4 + 40 ; r 5 ~ 3 , t 20  "), 2);
        ThatchCoats x = Check.told("45+12+3;r4~2,w07,s3~0,y6,t20~9");
        check.due(8, "count(1): twice 45", x.count(1), 90);
        check.due(8, "count(2)", x.count(2), 2);
        check.due(8, "rains(1)", x.rains(1), 3);
        int[][] want = {{0, 4, 2}, {1, 7, 0}, {2, 3, 0}, {3, 6, 0}, {4, 20, 9}};
        for (int coat = 0; coat < 5; coat++) {
            for (int what = 0; what < 3; what++) {
                check.due(8, "of(" + coat + ", " + what + ")", x.of(coat, what), want[coat][what]);
            }
        }
    }

    private static void roofsWithFaults() {
        String[] texts = {"", "   ", "x", "0", "00", "100", "1 2", " 0", "  00", "-1", "9+", "9+ ", "9+x", "9+41",
            "9+ 41", "9+ 4 1", "9+410", "9+400", "9+1+1+1+1+1+1+1+1+1", "9;", "9; ", "9;R5", "9;r", "9;r0", "9;r21",
            "9;r200", "9;r5,", "9;r5;r5", "9;r5+3", "9;r5~", "9;r5~x", "9;r5~12", "9;r5~1 2", "9;r5 w5", "9;,r5",
            "9,r5", "9~1", "9;r5,w6,", "9;r5,w", "9;r5~1~2", "9;r1,r1,r1,r1,r1,r1,r1,r1,r1,r1,r1", "9;5", "9 9",
            "9;r~3", "9;rr5", "9; r 5 ~ 3 x", "r5"};
        int[] places = {0, 3, 0, 0, 0, 2, 2, 1, 2, 0, 2, 3, 2, 2,
            3, 5, 2, 4, 17, 2, 3, 2, 3, 3, 3,
            5, 5, 4, 4, 5, 5, 6, 7, 5, 2,
            1, 1, 8, 6, 6, 31, 2, 2,
            3, 3, 11, 0};
        for (int i = 0; i < texts.length; i++) {
            ThatchCoats x = Check.told("45+12+3;r4~2,w7");
            x.years(3);
            x.seed(77);
            String before = Seen.house(x);
            check.due(8, "roof of \"" + texts[i] + "\"", Check.roof(x, texts[i]), -20 - places[i]);
            if (!before.equals(Seen.house(x))) {
                check.fail("promise 8: a fault changed the house: \"" + texts[i] + "\"");
            }
            check.due(8, "type(57): the tape is empty behind a fault", x.type(57), 1);
            check.due(8, "roof of 9 behind a fault", x.roof(), 0);
        }
    }

    private static void roofInPlaceOfAll() {
        ThatchCoats x = Check.told("45+12+3;r4~2,w7");
        x.years(5);
        x.lay(2, 3);
        x.seed(4711);
        check.due(8, "roof of 1;t20~9 (more than WALLS bear)", Check.roof(x, "1;t20~9"), 1);
        int[] want = {1, 2, 0, 0, 0, 29, 20, 0, 0};
        for (int what = 0; what < want.length; what++) {
            check.due(8, "count(" + what + ") behind roof", x.count(what), want[what]);
        }
        check.due(8, "of(0, 3) behind roof", x.of(0, 3), 0);
        check.due(8, "undo(): a roof leaves nothing", x.undo(), ThatchCoats.NONE);
        check.due(8, "seed(1): THE DRAW stays", x.seed(1), 4711);
        check.due(8, "type(57): the tape is empty", x.type(57), 1);
        x.strip(1);
        x.undo();
        check.due(8, "undo() behind one", x.undo(), ThatchCoats.NONE);
        x.years(3);
        x.strip(1);
        x.lay(0, 1);
        check.due(8, "of(0, 3) LAID in YEAR 3", x.of(0, 3), 3);
        Check.roof(x, "9;w3,w2");
        check.due(8, "of(0, 3): LAID in YEAR 0", x.of(0, 3), 0);
        check.due(8, "of(1, 3): LAID in YEAR 0", x.of(1, 3), 0);
    }

    private static void count() {
        ThatchCoats x = Check.told("10+15;r4~2,w7~3,s2");
        int[] want = {3, 20, 1, 0, 0, 18, 13, 1, 0};
        for (int what = 0; what < want.length; what++) {
            check.due(9, "count(" + what + ")", x.count(what), want[what]);
        }
        x.walls(18);
        check.due(9, "count(7): just as much", x.count(7), 1);
        x.walls(17);
        check.due(9, "count(7): one more", x.count(7), 0);
        x.years(1);
        // s takes 4, w 3, r 4 of 15: 4 leak; damp: s 2, w 4, r 4; s is thick by 1
        int[] then = {3, 17, 1, 1, 4, 12 + 10, 12, 0, 1};
        for (int what = 0; what < then.length; what++) {
            check.due(9, "count(" + what + ") behind a YEAR", x.count(what), then[what]);
        }
        check.due(9, "count(-1)", x.count(-1), ThatchCoats.BAD);
        check.due(9, "count(9)", x.count(9), ThatchCoats.BAD);
    }
}
