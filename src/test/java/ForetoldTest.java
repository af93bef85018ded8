/** Promises 18 to 29: what is foretold, and images. */
public final class ForetoldTest {
    private static final Check check = new Check("ForetoldTest");

    public static void main(String[] args) {
        ahead();
        leak();
        bare();
        reach();
        cover();
        relief();
        share();
        worst();
        hot();
        bursts();
        imageAndRestore();
        check.end();
    }

    private static void ahead() {
        ThatchCoats x = Check.told("45+12+3+25;r4~2,w7,s3,y6~1");
        x.years(2);
        String before = Seen.house(x);
        ThatchCoats y = Check.told("45+12+3+25;r4~2,w7,s3,y6~1");
        y.years(2);
        for (int n = 0; n <= 40; n++) {
            check.due(18, "ahead(" + n + ", 0)", x.ahead(n, 0), y.count(0));
            check.due(18, "ahead(" + n + ", 1)", x.ahead(n, 1), y.count(4));
            check.due(18, "ahead(" + n + ", 2)", x.ahead(n, 2), y.count(5));
            y.years(1);
        }
        check.due(18, "ahead(-1, 0)", x.ahead(-1, 0), ThatchCoats.BAD);
        check.due(18, "ahead(41, 0)", x.ahead(41, 0), ThatchCoats.BAD);
        check.due(18, "ahead(0, -1)", x.ahead(0, -1), ThatchCoats.BAD);
        check.due(18, "ahead(0, 3)", x.ahead(0, 3), ThatchCoats.BAD);
        x.leak();
        x.bare();
        x.reach(40);
        x.cover(4, 20);
        x.relief(20, 1);
        x.share(6, 20, 0);
        x.worst(0);
        x.hot(1);
        x.bursts(6, 5, 0);
        if (!before.equals(Seen.house(x))) {
            check.fail("promise 18: what is foretold changed the house");
        }
    }

    private static void leak() {
        check.due(19, "leak() without rains", Check.told("45;r1").leak(), ThatchCoats.NONE);
        check.due(19, "leak() at once", Check.told("45+6;r5").leak(), 1);
        check.due(19, "leak() in the second", Check.told("45+5;r5").leak(), 2);
        check.due(19, "leak() in the 21st", Check.told("45+1;r20").leak(), 21);
        check.due(19, "leak() in the 40th", Check.told("45+1;r20,r19").leak(), 40);
        check.due(19, "leak() in the 41st", Check.told("45+1;r20,r20").leak(), ThatchCoats.NONE);
        ThatchCoats x = Check.told("45+0+0+0+9");
        check.due(19, "leak()", x.leak(), 4);
        x.years(3);
        check.due(19, "leak()", x.leak(), 1);
        x.years(1);
        check.due(19, "leak(): what leaked is past", x.leak(), 4);
    }

    private static void bare() {
        check.due(20, "bare()", new ThatchCoats().bare(), 0);
        check.due(20, "bare()", Check.told("45;r1").bare(), 1);
        check.due(20, "bare()", Check.told("45;r20,w20").bare(), 40);
        check.due(20, "bare()", Check.told("45;r20,w20,s1").bare(), ThatchCoats.NONE);
    }

    private static void reach() {
        ThatchCoats x = Check.told("45+6+0;r4,w1,s3,r2");
        check.due(21, "reach(-2)", x.reach(-2), ThatchCoats.BAD);
        check.due(21, "reach(100)", x.reach(100), ThatchCoats.BAD);
        check.due(21, "reach(-1)", x.reach(-1), 2);
        int[] want = {0, 1, 1, 2, 2, 2, 2, 2, 4, 4, 4, 4};
        for (int v = 0; v < want.length; v++) {
            check.due(21, "reach(" + v + ")", x.reach(v), want[v]);
        }
        check.due(21, "reach(99)", x.reach(99), 4);
        x.years(1);
        check.due(21, "reach(-1) in a dry YEAR", x.reach(-1), 0);
        check.due(21, "reach(99) without coats", new ThatchCoats().reach(99), 0);
    }

    private static void cover() {
        ThatchCoats x = Check.told("1+9");
        check.due(22, "cover(-1, 1)", x.cover(-1, 1), ThatchCoats.BAD);
        check.due(22, "cover(5, 1)", x.cover(5, 1), ThatchCoats.BAD);
        check.due(22, "cover(0, 0)", x.cover(0, 0), ThatchCoats.BAD);
        check.due(22, "cover(0, 21)", x.cover(0, 21), ThatchCoats.BAD);
        check.due(22, "cover(0, 1), whatever WALLS bear", x.cover(0, 1), 9);
        check.due(22, "cover(0, 12)", x.cover(0, 12), 20);
        check.due(22, "cover(0, 13)", x.cover(0, 13), ThatchCoats.NONE);
        check.due(22, "cover(1, 1)", x.cover(1, 1), 18);
        check.due(22, "cover(2, 1)", x.cover(2, 1), 7);
        check.due(22, "cover(3, 1) in an even YEAR", x.cover(3, 1), 18);
        check.due(22, "cover(4, 1)", x.cover(4, 1), 3);
        x.years(1);
        check.due(22, "cover(3, 1) in an odd YEAR", x.cover(3, 1), 16);
        check.due(22, "cover without rains", new ThatchCoats().cover(0, 20), 1);
        ThatchCoats full = Check.told("9;r1,r1,r1,r1,r1,r1,r1,r1,r1,r1");
        check.due(22, "cover over ten", full.cover(0, 1), ThatchCoats.FULL);
        check.due(22, "cover over ten, BAD", full.cover(0, 0), ThatchCoats.BAD);
        full.strip(1);
        check.due(22, "cover over nine", full.cover(0, 1), 1);
    }

    private static void relief() {
        ThatchCoats x = Check.told("10+9;r9,w9,s2");
        check.due(23, "relief(0, 0)", x.relief(0, 0), ThatchCoats.BAD);
        check.due(23, "relief(21, 0)", x.relief(21, 0), ThatchCoats.BAD);
        check.due(23, "relief(1, -1)", x.relief(1, -1), ThatchCoats.BAD);
        check.due(23, "relief(1, 2)", x.relief(1, 2), ThatchCoats.BAD);
        // without r: 4 + 4 taken, 1 leaks; without w: none; without s: none; of like ones the undermost
        check.due(23, "relief(1, 0)", x.relief(1, 0), 1);
        check.due(23, "relief(1, 1)", x.relief(1, 1), 0);
        x.walls(17);
        check.due(23, "relief(1, 0): only r or w", x.relief(1, 0), 1);
        x = Check.told("10+9;r9,w8,s2");
        x.walls(10);
        check.due(23, "relief(1, 0): WALLS bear only w and s", x.relief(1, 0), 0);
        check.due(23, "relief(1, 1)", x.relief(1, 1), 1);
        x.walls(9);
        check.due(23, "relief(1, 0): WALLS bear nothing", x.relief(1, 0), ThatchCoats.NONE);
        check.due(23, "relief(1, 1): WALLS bear nothing", x.relief(1, 1), ThatchCoats.NONE);
        check.due(23, "relief(9, 2): BAD ahead of NONE", x.relief(9, 2), ThatchCoats.BAD);
        check.due(23, "relief(1, 0) without coats", new ThatchCoats().relief(1, 0), ThatchCoats.NONE);
        // the coats above keep their own kind, thickness and damp: s~0 takes 2 more, s~9 does not
        x = Check.told("99+9;r1,s5~9,s7~0");
        check.due(23, "relief(1, 0)", x.relief(1, 0), 0);
        check.due(23, "relief(1, 1)", x.relief(1, 1), 0);
        x = Check.told("10+9;s1~9,r3,w8");
        check.due(23, "relief(2, 0)", x.relief(2, 0), 0);
        check.due(23, "relief(2, 1): 2 and 3 leak", x.relief(2, 1), 2 + 3);
        x = Check.told("99+9;r2~9,s9~0");
        x.walls(10);
        check.due(23, "relief(1, 0): what is left is not damp", x.relief(1, 0), 0);
        x = Check.told("10+9;r9~9");
        x.walls(1);
        check.due(23, "relief(20, 0): the only one", x.relief(20, 0), 0);
        check.due(23, "relief(20, 1): the only one", x.relief(20, 1), 180);
    }

    private static void share() {
        ThatchCoats x = Check.told("45+12;r4,r4");
        check.due(24, "share(-1, 1, 0)", x.share(-1, 1, 0), ThatchCoats.BAD);
        check.due(24, "share(7, 1, 0)", x.share(7, 1, 0), ThatchCoats.BAD);
        check.due(24, "share(0, 0, 0)", x.share(0, 0, 0), ThatchCoats.BAD);
        check.due(24, "share(0, 21, 0)", x.share(0, 21, 0), ThatchCoats.BAD);
        check.due(24, "share(0, 1, -3)", x.share(0, 1, -3), ThatchCoats.BAD);
        check.due(24, "share(0, 1, 2)", x.share(0, 1, 2), ThatchCoats.NONE);
        check.due(24, "share(0, 1, MAX)", x.share(0, 1, Integer.MAX_VALUE), ThatchCoats.NONE);
        check.due(24, "share(3, 1, -1)", x.share(3, 1, -1), 1);
        // 11 of 12 are taken each way, damp by 2 and 3 or 3 and 2: of like ones the first
        check.due(24, "share(3, 1, -2)", x.share(3, 1, -2), 10 + 5);
        check.due(24, "share(3, 1, 0)", x.share(3, 1, 0), 0);
        check.due(24, "share(3, 1, 1)", x.share(3, 1, 1), 3);
        check.due(24, "share without coats", new ThatchCoats().share(3, 1, -1), ThatchCoats.NONE);
        check.due(24, "share without coats, BAD", new ThatchCoats().share(3, 1, -3), ThatchCoats.BAD);
        check.due(24, "share without coats", new ThatchCoats().share(0, 1, -2), ThatchCoats.NONE);
        // above 20 straw is lost, which makes it less heavy: that is told ahead of the first
        x = Check.told("45;r20,r4");
        check.due(24, "share(3, 1, 0)", x.share(3, 1, 0), 3);
        check.due(24, "share(3, 1, 1)", x.share(3, 1, 1), 0);
        check.due(24, "share(3, 1, -2)", x.share(3, 1, -2), 23);
        x = Check.told("45+22;w2,r4,s18");
        check.due(24, "share(6, 1, -1)", x.share(6, 1, -1), 0);
        check.due(24, "share(1, 1, 2) of one coat", Check.told("45;r4").share(1, 1, 0), 1);
        // the middle one gains nothing; both others take 1 more by 1 straw each: 2 and 10 and 1 of 40
        x = Check.told("45+40;w1,w20,w3");
        check.due(24, "share(2, 1, -1)", x.share(2, 1, -1), 27);
        check.due(24, "share(2, 1, -2)", x.share(2, 1, -2), 2 + 25 + 4);
        int[] straws = {1, 0, 1};
        for (int k = 0; k < 3; k++) {
            check.due(24, "share(2, 1, " + k + ")", x.share(2, 1, k), straws[k]);
        }
        // ten coats, 6 straw: as many ways as there can be; no rains: of like ones the first
        x = Check.told("99;r1,r1,r1,r1,r1,r1,r1,r1,r1,r2");
        check.due(24, "share(6, 1, 9)", x.share(6, 1, 9), 6);
        check.due(24, "share(6, 1, 10)", x.share(6, 1, 10), ThatchCoats.NONE);
    }

    private static void worst() {
        check.due(25, "worst(-1)", new ThatchCoats().worst(-1), ThatchCoats.BAD);
        check.due(25, "worst(2): BAD ahead of NONE", new ThatchCoats().worst(2), ThatchCoats.BAD);
        check.due(25, "worst(0)", new ThatchCoats().worst(0), ThatchCoats.NONE);
        check.due(25, "worst(1)", new ThatchCoats().worst(1), ThatchCoats.NONE);
        ThatchCoats x = Check.told("45+3+9+9");
        check.due(25, "worst(0): of like ones the first", x.worst(0), 1);
        check.due(25, "worst(1)", x.worst(1), 9);
        x.years(2);
        check.due(25, "worst(0): from now on", x.worst(0), 0);
        check.due(25, "worst(0) 39 on", Check.told("45+1;r20,r19").worst(0), 39);
        check.due(25, "worst(1) 39 on", Check.told("45+1;r20,r19").worst(1), 1);
        check.due(25, "worst(0) 40 on", Check.told("45+1;r20,r20").worst(0), ThatchCoats.NONE);
        check.due(25, "worst(1) 40 on", Check.told("45+1;r20,r20").worst(1), ThatchCoats.NONE);
    }

    private static void hot() {
        ThatchCoats x = Check.told("99;r5,w9~7,s4~6,y3~1");
        int[] want = {ThatchCoats.BAD, 4, 14, ThatchCoats.NONE, ThatchCoats.NONE, ThatchCoats.BAD};
        for (int k = 0; k < want.length; k++) {
            check.due(26, "hot(" + k + ")", x.hot(k), want[k]);
        }
        check.due(26, "hot(-1)", x.hot(-1), ThatchCoats.BAD);
        check.due(26, "hot(1) without coats", new ThatchCoats().hot(1), ThatchCoats.BAD);
        x = Check.told("99;r20~6,r20~6,r20~6,r20~6,r20~6,r20~6,r20~6,r20~6,r20~6,r20~6");
        check.due(26, "hot(10)", x.hot(10), 260);
        check.due(26, "fire(260)", x.fire(260), 10);
    }

    private static void fraction(ThatchCoats x, int n, int c, int above, int below) {
        check.due(27, "bursts(" + n + ", " + c + ", 0)", x.bursts(n, c, 0), above);
        check.due(27, "bursts(" + n + ", " + c + ", 1)", x.bursts(n, c, 1), below);
    }

    private static void bursts() {
        ThatchCoats x = Check.told("45+5;r5");
        check.due(27, "bursts(-1, 0, 0)", x.bursts(-1, 0, 0), ThatchCoats.BAD);
        check.due(27, "bursts(7, 0, 0)", x.bursts(7, 0, 0), ThatchCoats.BAD);
        check.due(27, "bursts(0, -1, 0)", x.bursts(0, -1, 0), ThatchCoats.BAD);
        check.due(27, "bursts(0, 11, 0)", x.bursts(0, 11, 0), ThatchCoats.BAD);
        check.due(27, "bursts(0, 0, 2)", x.bursts(0, 0, 2), ThatchCoats.BAD);
        check.due(27, "bursts(0, 0, -1)", x.bursts(0, 0, -1), ThatchCoats.BAD);
        fraction(x, 0, 7, 1, 1);
        fraction(x, 1, 0, 1, 1);
        fraction(x, 1, 3, 7, 10);
        fraction(x, 1, 4, 3, 5);
        fraction(x, 1, 10, 0, 1);
        fraction(x, 2, 4, 0, 1);
        x = Check.told("45+5;r20");
        fraction(x, 6, 3, 1, 1);
        // it is thick by 11, 10, 9 ..: a burst of 10 leaks from the third YEAR on
        x = Check.told("45+5;r11");
        fraction(x, 2, 3, 1, 1);
        fraction(x, 3, 3, 7, 10);
        fraction(x, 4, 3, 49, 100);
        fraction(x, 6, 3, 2401, 10000);
        fraction(x, 6, 1, 6561, 10000);
        fraction(x, 6, 10, 0, 1);
        // the damp of a burst tells in the years behind it: SEDGE takes 4 of the second only if it is dry
        x = Check.told("45+1+2;s3,w1");
        fraction(x, 2, 3, 91, 100);
    }

    private static void imageAndRestore() {
        ThatchCoats x = Check.told("45+12+3;r4~2,w7,s3");
        check.due(29, "restore()", x.restore(), ThatchCoats.NONE);
        x.years(3);
        x.seed(1234);
        x.sheet(0, 2, 5);
        Check.type(x, "9;");
        String before = Seen.house(x);
        check.due(28, "image()", x.image(), 1);
        Check.type(x, "r4");
        x.item(0, 2, 0, 3);
        x.walls(12);
        x.dry();
        x.rain(40);
        x.drift(20);
        x.fire(999);
        x.seed(5);
        x.sheet(1, 0, 7);
        check.due(29, "restore()", x.restore(), 1);
        if (!before.equals(Seen.house(x))) {
            check.fail("promise 29: not as it was then: " + Seen.house(x));
        }
        check.due(29, "drop(1): sheets stay", x.drop(1), 7);
        check.due(29, "drop(0): sheets stay", x.drop(0), 5);
        // what may be undone is as it was then, too
        check.due(29, "undo()", x.undo(), 2);
        check.due(29, "count(3)", x.count(3), 2);
        check.due(29, "undo()", x.undo(), 1);
        check.due(29, "undo()", x.undo(), 0);
        check.due(29, "count(3)", x.count(3), 0);
        check.due(29, "roof(): the tape stays", x.roof(), 1);
        check.due(29, "restore() again, behind a roof", x.restore(), 1);
        if (!before.equals(Seen.house(x))) {
            check.fail("promise 29: not as it was then, again: " + Seen.house(x));
        }
        x.strip(2);
        check.due(28, "image() in place of the other", x.image(), 1);
        x.years(1);
        check.due(29, "restore()", x.restore(), 1);
        check.due(29, "count(0)", x.count(0), 0);
        check.due(29, "count(8)", x.count(8), 4);
    }
}
