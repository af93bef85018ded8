import java.util.function.ToIntFunction;

/** Boundary cases of promises 18 to 29, and of what section 2 says of them. */
final class ForetoldEdges {
    private static final int BAD = ThatchCoats.BAD, FULL = ThatchCoats.FULL, NONE = ThatchCoats.NONE;
    private static final int MIN = Integer.MIN_VALUE, MAX = Integer.MAX_VALUE;
    private static final String ANY = "45+12+3+25;r4~2,w7,s3,y6~1";

    private final Edges e;

    ForetoldEdges(Edges e) {
        this.e = e;
    }

    void run() {
        ahead();
        leak();
        bare();
        reach();
        cover();
        relief();
        shareOfStraw();
        shareOfLikeOnes();
        share();
        worst();
        hot();
        bursts();
        image();
        restore();
    }

    private void bad(String call, ToIntFunction<ThatchCoats> asked) {
        e.unchanged(call, () -> Check.told(ANY), asked, BAD);
    }

    private void ahead() {
        e.terms("FORETOLD from now (nothing is changed): behind n YEARS (0 .. 40): how many COATS; LEAKED in all; how "
            + "HEAVY all is.");
        // each YEAR the uppermost takes the 1, which makes it no damper
        ThatchCoats x = Check.told("45+1;r20,r19");
        int[][] nCoatsLeakedHeavy = {{0, 2, 0, 39}, {1, 2, 0, 38}, {18, 2, 0, 21}, {19, 1, 0, 20}, {20, 1, 0, 19},
            {38, 1, 0, 1}, {39, 0, 0, 0}, {40, 0, 1, 0}};
        for (int[] want : nCoatsLeakedHeavy) {
            for (int what = 0; what <= 2; what++) {
                e.due("ahead(" + want[0] + ", " + what + ")", x.ahead(want[0], what), want[1 + what]);
            }
        }
        e.due("count(3): nothing is changed", x.count(3), 0);
        x.years(40);
        x.years(2);
        e.due("ahead(0, 1): in all, from the first on", x.ahead(0, 1), 3);
        e.due("ahead(40, 1)", x.ahead(40, 1), 43);
        for (int n : new int[] {0, 1, 40}) {
            for (int what = 0; what <= 2; what++) {
                int w = what;
                e.unchanged("ahead", () -> Check.told(ANY), y -> Math.min(0, y.ahead(n, w)), 0);
            }
        }
        // a choice: what is foretold goes on beyond YEAR 9999
        e.due("ahead(40, 1) in YEAR 9999", DoneEdges.inYear(9999).ahead(40, 1), 9999 + 40);
        e.promise(18, "Behind n YEARS: 0 how many COATS, 1 LEAKED in all, 2 how HEAVY. BAD.");
        int[][] wrong = {{-1, 0}, {41, 0}, {MIN, 0}, {MAX, 0}, {0, -1}, {0, 3}, {0, MIN}, {0, MAX}};
        for (int[] w : wrong) {
            bad("ahead(" + w[0] + ", " + w[1] + ")", y -> y.ahead(w[0], w[1]));
        }
    }

    private void leak() {
        e.terms("LEAK: the first of 1 to 40 YEARS in which something LEAKS; none.");
        e.due("at once", Check.told("9+6;r5").leak(), 1);
        e.due("in the second", Check.told("9+5;r5").leak(), 2);
        e.due("in the 39th", Check.told("9+1;r20,r18").leak(), 39);
        e.due("in the 40th", Check.told("9+1;r20,r19").leak(), 40);
        e.due("not in the 41st", Check.told("9+1;r20,r20").leak(), NONE);
        e.due("what leaked ahead of now is past", past().leak(), 3);
        e.promise(19, "LEAK; NONE.");
        e.due("no coat", Check.told("9+1").leak(), 1);
        e.unchanged("no rains", () -> Check.told("9;r1"), ThatchCoats::leak, NONE);
        e.unchanged("no drop", () -> Check.told("9+0+0"), ThatchCoats::leak, NONE);
        e.unchanged("in the second", () -> Check.told("9+5;r5"), ThatchCoats::leak, 2);
    }

    private static ThatchCoats past() {
        ThatchCoats x = Check.told("9+7+0+0");
        x.years(1);
        return x;
    }

    private void bare() {
        e.terms("BARE: the first of 0 to 40 YEARS behind which there is no COAT; none.");
        e.due("now", new ThatchCoats().bare(), 0);
        e.due("behind one", Check.told("9;r1").bare(), 1);
        e.due("behind 39", Check.told("9;r20,r19").bare(), 39);
        e.due("behind 40", Check.told("9;r20,r20").bare(), 40);
        e.due("not behind 41", Check.told("9;r20,r20,r1").bare(), NONE);
        e.promise(20, "BARE; NONE.");
        e.unchanged("behind 41", () -> Check.told("9;r20,r20,r1"), ThatchCoats::bare, NONE);
        e.unchanged("behind 3", () -> Check.told("9+9;r1,r2"), ThatchCoats::bare, 3);
    }

    private void reach() {
        e.terms("REACH: how many COATS water comes to in this YEAR (as it RAINS); how many it would, if it RAINED by v "
            + "(0 .. 99).");
        ThatchCoats x = Check.told("9+20+0+21;r20,r20,r20,r20,r20");
        int[][] waterReach = {{0, 0}, {1, 1}, {20, 1}, {21, 2}, {40, 2}, {41, 3}, {60, 3}, {61, 4}, {80, 4}, {81, 5},
            {99, 5}};
        for (int[] w : waterReach) {
            e.due("reach(" + w[0] + ")", x.reach(w[0]), w[1]);
        }
        e.due("by 20", x.reach(-1), 1);
        x = Check.told("9+20+0+21;r20,r20,w1,w1");
        e.due("one that takes nothing is come to", x.reach(-1), 3);
        e.due("by 1", x.reach(1), 3);
        x.years(1);
        e.due("by 0", x.reach(-1), 0);
        x.years(1);
        e.due("by 21", x.reach(-1), 2);
        e.due("more than all take", Check.told("9;r3,r4").reach(99), 2);
        e.due("no coat", new ThatchCoats().reach(99), 0);
        e.due("no rains", Check.told("9;r3").reach(-1), 0);
        e.promise(21, "REACH, as it RAINS (v -1), if it RAINED by v. BAD: v below -1, above 99.");
        for (int v : new int[] {-2, 100, MIN, MAX}) {
            bad("reach(" + v + ")", y -> y.reach(v));
        }
        e.unchanged("reach(-1)", () -> Check.told(ANY), y -> y.reach(-1), 4);
        e.unchanged("reach(0)", () -> Check.told(ANY), y -> y.reach(0), 0);
        e.unchanged("reach(99)", () -> Check.told(ANY), y -> y.reach(99), 4);
    }

    private void cover() {
        e.terms("COVER for a KIND, n YEARS (1 .. 20): how THICK (1 .. 20) a COAT, LAID now (whatever WALLS bear), must "
            + "be at least, so that nothing LEAKS in them; none.");
        int[][] rainKindYearsThick = {{20, 0, 1, 20}, {21, 0, 1, NONE}, {19, 0, 2, 20}, {20, 0, 2, NONE},
            {1, 0, 20, 20}, {1, 0, 19, 19}, {1, 0, 1, 1}, {0, 0, 20, 1}, {10, 1, 1, 20}, {11, 1, 1, NONE},
            {1, 1, 19, 20}, {1, 1, 20, NONE}, {22, 2, 1, 20}, {23, 2, 1, NONE}, {3, 2, 1, 1}, {10, 3, 1, 20},
            {11, 3, 1, NONE}, {40, 4, 1, 18}, {6, 4, 1, 1}, {7, 4, 1, 2}, {1, 4, 20, 20}};
        for (int[] w : rainKindYearsThick) {
            ThatchCoats x = Check.told("1+" + w[0]);
            e.due("cover(" + w[1] + ", " + w[2] + ") by " + w[0], x.cover(w[1], w[2]), w[3]);
        }
        e.due("no rains", new ThatchCoats().cover(1, 20), 1);
        e.due("over what is there", Check.told("1+24;r4").cover(0, 1), 20);
        e.due("over what is there", Check.told("1+25;r4").cover(0, 1), NONE);
        e.due("over what is too heavy already", Check.told("1+25;r20~9").cover(0, 1), 5);
        ThatchCoats x = Check.told("1+0+11");
        x.years(1);
        e.due("RYE in an odd YEAR", x.cover(3, 1), 20);
        e.promise(22, "COVER; NONE. BAD; FULL: there are 10.");
        int[][] wrong = {{-1, 1}, {5, 1}, {MIN, 1}, {MAX, 1}, {0, 0}, {0, -1}, {0, 21}, {0, MIN}, {0, MAX}};
        for (int[] w : wrong) {
            bad("cover(" + w[0] + ", " + w[1] + ")", y -> y.cover(w[0], w[1]));
            e.due("BAD of ten, too", Check.told(ToldEdges.TEN_COATS).cover(w[0], w[1]), BAD);
        }
        e.unchanged("cover: there are 10", () -> Check.told(ToldEdges.TEN_COATS), y -> y.cover(0, 1), FULL);
        // a choice: NONE stands ahead of FULL in the line, but there is no COVER to look for over ten
        e.due("cover: there are 10, and it leaks", Check.told("9+40;r1,r1,r1,r1,r1,r1,r1,r1,r1,r1").cover(1, 20), FULL);
        e.due("cover: there are 9", Check.told("9+9;r1,r1,r1,r1,r1,r1,r1,r1,r1").cover(0, 1), 1);
        e.unchanged("cover: none", () -> Check.told("1+21"), y -> y.cover(0, 1), NONE);
        e.unchanged("cover", () -> Check.told("1+20"), y -> y.cover(0, 1), 20);
    }

    private void relief() {
        e.terms("RELIEF for n YEARS (1 .. 20): the COAT that should be taken out now, so that WALLS bear all, and "
            + "least LEAKS in them, of like ones the undermost; how much LEAKS; none.");
        reliefIs("5+9;r5,r5", 1, 0, 4);
        reliefIs("5+9;r5,r4", 1, 1, 4);
        reliefIs("5+9;r4,r5", 1, 0, 4);
        reliefIs("5+0;r3,r4,r2", 1, 0, 0);
        // WALLS bear 10: without w5 just so; without s4 not
        reliefIs("5+9;r6,w5,s4", 1, 1, 0);
        // without w4 nothing would leak, but WALLS do not bear the 12 that are left
        reliefIs("5+12;r6,w4,s6", 1, 0, 12 - 2 - 8);
        reliefIs("5+9;r9,w5,s6", 1, NONE, NONE);
        reliefIs("5;r11", 1, 0, 0);
        reliefIs("5+40;r11", 20, 0, 800);
        reliefIs("99+9;r9", 1, 0, 9);
        reliefIs("1;r1~1,r1~2", 1, 1, 0);
        reliefIs("1;r1~2,r1~2", 1, NONE, NONE);
        reliefIs("99", 20, NONE, NONE);
        reliefIs("99+1;r19,r19", 19, 0, 0);
        reliefIs("99+1;r19,r19", 20, 0, 1);
        e.promise(23, "RELIEF: the COAT (what 0), how much (1); NONE. BAD.");
        int[][] wrong = {{0, 0}, {-1, 0}, {21, 0}, {MIN, 0}, {MAX, 0}, {1, -1}, {1, 2}, {1, MIN}, {1, MAX}};
        for (int[] w : wrong) {
            bad("relief(" + w[0] + ", " + w[1] + ")", y -> y.relief(w[0], w[1]));
            e.due("BAD of none, too", new ThatchCoats().relief(w[0], w[1]), BAD);
        }
        e.unchanged("relief(1, 0): none", () -> Check.told("1;r9,r9"), y -> y.relief(1, 0), NONE);
        e.unchanged("relief(1, 1): none", () -> Check.told("1;r9,r9"), y -> y.relief(1, 1), NONE);
        e.unchanged("relief(1, 0)", () -> Check.told("5+9;r5,r4"), y -> y.relief(1, 0), 1);
        e.unchanged("relief(1, 1)", () -> Check.told("5+9;r5,r4"), y -> y.relief(1, 1), 4);
        // ten: any of them may go
        ThatchCoats x = Check.told("99+40;r9,r9,r9,r9,r9,r9,r9,r9,r9,w2");
        e.due("relief(1, 0) of ten like ones", x.relief(1, 0), 0);
        x = Check.told("99+40;r9,r9,r9,r9,w1,w1,w1,w1,w1,w1");
        e.due("relief(1, 0) of ten", x.relief(1, 0), 4);
        e.due("relief(1, 1) of ten", x.relief(1, 1), 4);
    }

    private void reliefIs(String text, int n, int coat, int leaks) {
        ThatchCoats x = Check.told(text);
        e.due("\"" + text + "\" relief(" + n + ", 0)", x.relief(n, 0), coat);
        e.due("\"" + text + "\" relief(" + n + ", 1)", x.relief(n, 1), leaks);
    }

    private void shareIs(String text, int s, int n, int leaks, int heavy, int... straws) {
        ThatchCoats x = Check.told(text);
        String call = "\"" + text + "\" share(" + s + ", " + n + ", ";
        e.due(call + "-1)", x.share(s, n, -1), leaks);
        e.due(call + "-2)", x.share(s, n, -2), heavy);
        for (int k = 0; k < straws.length; k++) {
            e.due(call + k + ")", x.share(s, n, k), straws[k]);
        }
        e.due(call + straws.length + ")", x.share(s, n, straws.length), NONE);
    }

    private void shareOfStraw() {
        e.terms("SHARE of s straw (0 .. 6), n YEARS (1 .. 20): by how much COATS should be THICKER now (20 at most, "
            + "what is above is lost), s in all, so that least LEAKS in them,");
        // 12 on r4 r4: 4 leak; each straw takes 1 more; damp by 2 each, or by half of more
        shareIs("9+12;r4,r4", 0, 1, 4, 4 + 3 + 2 + 2, 0, 0);
        shareIs("9+12;r4,r4", 1, 1, 3, 4 + 4 + 2 + 2, 0, 1);
        shareIs("9+20;r4,w2", 6, 1, 9, 10 + 1 + 5 + 0, 6, 0);
        // w2 takes 1 in the first YEAR, none in the second, which is its last
        shareIs("9+20;r4,w2", 6, 2, 9 + 10, 10 + 9, 6, 0);
        // 1 of rain for 20 YEARS on 14: 6 leak; 6 straw more: none
        shareIs("9+1;r14", 0, 20, 6, 0, 0);
        shareIs("9+1;r14", 6, 20, 0, 0, 6);
        shareIs("9+1;r14", 6, 19, 0, 1, 6);
        // THICK by 20 at most: straw above is lost, and so takes nothing
        shareIs("9+30;r20", 6, 1, 10, 19 + 9, 6);
        shareIs("9+30;r18", 6, 1, 10, 19 + 9, 6);
        shareIs("9+30;r14", 6, 1, 10, 19 + 9, 6);
        shareIs("9+30;r13", 6, 1, 11, 18 + 9, 6);
        shareIs("9+40;r20,w2", 6, 1, 40 - 20 - 4, 20 + 7 + 9 + 2, 0, 6);
        e.due("none: there are none", new ThatchCoats().share(0, 1, -1), NONE);
    }

    private void shareOfLikeOnes() {
        e.terms("of like ones it is least HEAVY then, of like ones the first (COAT 0, then 1, rising): how much LEAKS; "
            + "how HEAVY; the straw of COAT k; none: there are none.");
        // no rain: what is lost above 20 is not heavy
        shareIs("9;r20,r4", 3, 1, 0, 20 + 3, 3, 0);
        shareIs("9;r18,r4", 3, 1, 0, 20 + 3, 3, 0);
        shareIs("9;r4,r20", 3, 1, 0, 4 + 19, 0, 3);
        shareIs("9;r20,r20", 3, 1, 0, 20 + 19, 0, 3);
        // all alike: the first is the one that gives least to 0, then to 1
        shareIs("9;r4,r4,r4", 6, 1, 0, 17, 0, 0, 6);
        shareIs("9;r4,r4,r20", 6, 1, 0, 27, 0, 0, 6);
        shareIs("9;r4,r20,r4", 6, 1, 0, 27, 0, 6, 0);
        // as HEAVY now, but not then: by (1, 0) they take 3 and 3, by (0, 1) 2 and 4, which is damper by 1
        shareIs("9+6;r4,r3", 1, 1, 0, 5 + 2 + 1 + 1, 1, 0);
        shareIs("9;r9,r1", 6, 7, 0, 9, 0, 6);
        shareIs("9;r9,r1", 6, 20, 0, 0, 0, 6);
        shareIs("9+40;w1,w20,w3", 2, 1, 27, 2 + 20 + 3 + 5 + 1, 1, 0, 1);
        shareIs("99;r1,r1,r1,r1,r1,r1,r1,r1,r1,r2", 6, 1, 0, 16, 0, 0, 0, 0, 0, 0, 0, 0, 0, 6);
        for (int k : new int[] {-2, -1, 0, 1, MAX}) {
            e.due("none: there are none, share(3, 1, " + k + ")", new ThatchCoats().share(3, 1, k), NONE);
        }
    }

    private void share() {
        e.promise(24, "SHARE: how much LEAKS (k -1), how HEAVY (k -2), the straw of COAT k (NONE: no such one); NONE. "
            + "BAD: k below -2.");
        int[][] wrong = {{-1, 1, 0}, {7, 1, 0}, {MIN, 1, 0}, {MAX, 1, 0}, {0, 0, 0}, {0, -1, 0}, {0, 21, 0},
            {0, MIN, 0}, {0, MAX, 0}, {0, 1, -3}, {0, 1, MIN}, {7, 1, 99}, {0, 21, 99}};
        for (int[] w : wrong) {
            String call = "share(" + w[0] + ", " + w[1] + ", " + w[2] + ")";
            bad(call, y -> y.share(w[0], w[1], w[2]));
            e.due(call + ": BAD of none, too", new ThatchCoats().share(w[0], w[1], w[2]), BAD);
        }
        for (int k : new int[] {4, 9, 10, MAX}) {
            e.unchanged("share(3, 3, " + k + "): no such one", () -> Check.told(ANY), y -> y.share(3, 3, k), NONE);
        }
        for (int k = -2; k <= 3; k++) {
            int asked = k;
            e.unchanged("share(6, 20, " + k + ")", () -> Check.told(ANY), y -> Math.min(0, y.share(6, 20, asked)), 0);
        }
        e.due("share(0, 1, 9) of ten", Check.told(ToldEdges.TEN_COATS).share(0, 1, 9), 0);
        e.due("share(0, 1, 10) of ten", Check.told(ToldEdges.TEN_COATS).share(0, 1, 10), NONE);
    }

    private void worst() {
        e.terms("WORST: the YEAR from now on (0 .. 39 YEARS on) in which most LEAKS, of like ones the first; how much; "
            + "none: nothing does.");
        worstIs("9+5", 0, 5);
        worstIs("9+3+9+9", 1, 9);
        worstIs("9+1;r20,r18", 38, 1);
        worstIs("9+1;r20,r19", 39, 1);
        worstIs("9+1;r20,r20", NONE, NONE);
        worstIs("9+2;r20,r20", 39, 1);
        worstIs("9+0+40;r20,r20", 39, 39);
        worstIs("9+0+40;r1", 1, 40);
        worstIs("9", NONE, NONE);
        worstIs("9;r1", NONE, NONE);
        ThatchCoats x = Check.told("9+9+5+7");
        x.years(1);
        e.due("worst(0): YEARS on, from now", x.worst(0), 2);
        x.years(2);
        e.due("worst(0): this YEAR", x.worst(0), 0);
        e.promise(25, "WORST: how many YEARS on (what 0), how much (1); NONE. BAD.");
        for (int what : new int[] {-1, 2, MIN, MAX}) {
            bad("worst(" + what + ")", y -> y.worst(what));
            e.due("BAD of none, too", new ThatchCoats().worst(what), BAD);
        }
        e.unchanged("worst(0)", () -> Check.told("9+3+9"), y -> y.worst(0), 1);
        e.unchanged("worst(1)", () -> Check.told("9+3+9"), y -> y.worst(1), 9);
        e.unchanged("worst(0): none", () -> Check.told("9+0"), y -> y.worst(0), NONE);
        e.unchanged("worst(1): none", () -> Check.told("9+0"), y -> y.worst(1), NONE);
    }

    private void worstIs(String text, int year, int leaks) {
        ThatchCoats x = Check.told(text);
        e.due("\"" + text + "\" worst(0)", x.worst(0), year);
        e.due("\"" + text + "\" worst(1)", x.worst(1), leaks);
    }

    private void hot() {
        e.terms("HOT for k COATS: the least HEAT (0 .. 999) of a FIRE now, by which k are burnt; none.");
        hotIs("9;r1", 1, 1);
        hotIs("9;r5~6", 1, 11);
        hotIs("9;r5~7", 1, NONE);
        hotIs("9;r1,r2~6,r3", 1, 3);
        hotIs("9;r1,r2~6,r3", 2, 11);
        hotIs("9;r1,r2~6,r3", 3, 12);
        hotIs("9;r1,r2~7,r3", 1, 3);
        hotIs("9;r1,r2~7,r3", 2, NONE);
        hotIs("9;r1,r2~7,r3", 3, NONE);
        hotIs("9;r1~9,r2,r3", 2, 5);
        String ten = "9;r20~6,r20~6,r20~6,r20~6,r20~6,r20~6,r20~6,r20~6,r20~6,r20~6";
        hotIs(ten, 10, 260);
        e.promise(26, "HOT; NONE. BAD: k below 1, above how many there are.");
        for (int k : new int[] {0, -1, 3, MIN, MAX}) {
            e.unchanged("hot(" + k + ") of two", () -> Check.told("9;r1,r2"), y -> y.hot(k), BAD);
        }
        e.unchanged("hot(2) of two", () -> Check.told("9;r1,r2"), y -> y.hot(2), 3);
        e.unchanged("hot(1): none", () -> Check.told("9;r1,r2~9"), y -> y.hot(1), NONE);
        e.due("hot(1) without coats: BAD", new ThatchCoats().hot(1), BAD);
        e.due("hot(0) without coats", new ThatchCoats().hot(0), BAD);
        e.due("hot(11) of ten", Check.told(ten).hot(11), BAD);
        e.due("hot(3) of two that stop it: BAD", Check.told("9;r1~9,r2~9").hot(3), BAD);
    }

    /** A FIRE of just that HEAT burns k, of one less not so many. */
    private void hotIs(String text, int k, int heat) {
        e.due("\"" + text + "\" hot(" + k + ")", Check.told(text).hot(k), heat);
        if (heat > 0) {
            e.due("\"" + text + "\" fire(" + heat + ")", Check.told(text).fire(heat), k);
            e.due("\"" + text + "\" fire(" + (heat - 1) + ")", Check.told(text).fire(heat - 1), k - 1);
        } else {
            e.due("\"" + text + "\" fire(999) burns less", Check.told(text).fire(999) < k ? 1 : 0, 1);
        }
    }

    private void burstsAre(String text, int n, int c, int above, int below) {
        ThatchCoats x = Check.told(text);
        e.due("\"" + text + "\" bursts(" + n + ", " + c + ", 0)", x.bursts(n, c, 0), above);
        e.due("\"" + text + "\" bursts(" + n + ", " + c + ", 1)", x.bursts(n, c, 1), below);
    }

    private void bursts() {
        e.terms("BURSTS by c of 10 (0 .. 10): in each of the next n YEARS (0 .. 6) it RAINS twice as much by c of 10, "
            + "apart: how likely nothing LEAKS in them: a fraction in lowest terms.");
        // THICK by 19 .. 14 in six YEARS: 10 of rain never leaks, 20 always does
        String leaksByABurst = "9+10;r19";
        int[][] ncAboveBelow = {{0, 0, 1, 1}, {0, 10, 1, 1}, {1, 0, 1, 1}, {1, 1, 9, 10}, {1, 5, 1, 2}, {1, 10, 0, 1},
            {2, 4, 9, 25}, {6, 0, 1, 1}, {6, 1, 531441, 1000000}, {6, 2, 4096, 15625}, {6, 3, 117649, 1000000},
            {6, 5, 1, 64}, {6, 9, 1, 1000000}, {6, 10, 0, 1}};
        for (int[] w : ncAboveBelow) {
            burstsAre(leaksByABurst, w[0], w[1], w[2], w[3]);
        }
        // THICK by 20: 20 leaks from the second YEAR on
        burstsAre("9+10;r20", 1, 9, 1, 1);
        burstsAre("9+10;r20", 2, 9, 1, 10);
        // twice 40 is 80: t20 and t18 take 44 and 40
        burstsAre("9+40;t18,t20", 1, 10, 1, 1);
        burstsAre("9+40;r19,t20,w18", 1, 10, 0, 1);
        burstsAre("9+40", 6, 0, 0, 1);
        // the YEAR behind them does not count, though it leaks
        burstsAre("9+40", 0, 5, 1, 1);
        burstsAre("9+5;r5", 1, 0, 1, 1);
        burstsAre("9+1;r6", 6, 0, 1, 1);
        burstsAre("9+0", 6, 10, 1, 1);
        burstsAre("9", 6, 5, 1, 1);
        // none leaks in the first YEAR, only a burst of the second: 2 YEARS of rains apart
        burstsAre("9+0+10;r19", 2, 3, 7, 10);
        e.promise(27, "BURSTS: above (what 0), below (1). BAD.");
        int[][] wrong = {{-1, 0, 0}, {7, 0, 0}, {MIN, 0, 0}, {MAX, 0, 0}, {0, -1, 0}, {0, 11, 0}, {0, MIN, 0},
            {0, MAX, 0}, {0, 0, -1}, {0, 0, 2}, {0, 0, MIN}, {0, 0, MAX}};
        for (int[] w : wrong) {
            bad("bursts(" + w[0] + ", " + w[1] + ", " + w[2] + ")", y -> y.bursts(w[0], w[1], w[2]));
        }
        e.unchanged("bursts(6, 3, 0)", () -> Check.told(leaksByABurst), y -> y.bursts(6, 3, 0), 117649);
        e.unchanged("bursts(6, 3, 1)", () -> Check.told(leaksByABurst), y -> y.bursts(6, 3, 1), 1000000);
    }

    private void image() {
        e.promise(28, "All but SHEETS, THE TAPE is kept as an IMAGE: 1.");
        ThatchCoats x = new ThatchCoats();
        e.due("image() of an empty house", x.image(), 1);
        Check.roof(x, "99+1+2+3+4+5+6+7+8;r1,w2,s3,y4,t5,r6,w7,s8,y9,t10");
        x.fire(0);
        x.seed(9);
        e.due("restore()", x.restore(), 1);
        e.same("all", Seen.all(x), Seen.all(imagedAtFirst()));
        x = full();
        String before = Seen.house(x);
        e.due("image() of a full house", x.image(), 1);
        x.walls(1);
        x.dry();
        x.strip(10);
        x.years(8);
        x.seed(0);
        e.due("restore()", x.restore(), 1);
        e.same("the house", Seen.house(x), before);
        for (int i = 7; i >= 0; i--) {
            e.due("undo(): what may be undone is kept", x.undo(), i);
            e.due("count(6)", x.count(6), 55 - 2 - i);
        }
        e.due("undo()", x.undo(), NONE);
        x.strip(1);
        e.due("image(): in place of the other", x.image(), 1);
        x.strip(9);
        x.restore();
        e.due("count(0)", x.count(0), 9);
    }

    private static ThatchCoats imagedAtFirst() {
        ThatchCoats x = new ThatchCoats();
        x.image();
        return x;
    }

    /** Ten coats, eight rains, eight that may be undone, two lost. */
    private static ThatchCoats full() {
        ThatchCoats x = Check.told("99+1+2+3+4+5+6+7+8;r1,w2,s3,y4,t5,r6,w7,s8,y9,t10");
        x.seed(123);
        for (int i = 0; i < 10; i++) {
            x.pull(9 - i % 2, 1);
        }
        return x;
    }

    private void restore() {
        e.promise(29, "All is as it was then: 1. NONE: there is none.");
        e.unchanged("restore() at first", ThatchCoats::new, ThatchCoats::restore, NONE);
        e.unchanged("restore() of none", () -> Check.told(ANY), ThatchCoats::restore, NONE);
        e.unchanged("restore() at once", ForetoldEdges::imaged, ThatchCoats::restore, 1);
        ThatchCoats x = imaged();
        x.restore();
        x.years(3);
        e.due("restore() again", x.restore(), 1);
        e.due("count(3)", x.count(3), 2);
        e.due("count(8)", x.count(8), 2);
        Check.roof(x, "5;r5");
        e.due("restore() behind a roof", x.restore(), 1);
        e.due("count(3)", x.count(3), 2);
        e.due("undo() behind it", x.undo(), 1);
        // sheets and the tape are as they are now
        x = imaged();
        x.sheet(0, 0, 7);
        x.drop(1);
        Check.type(x, "+4");
        x.restore();
        e.due("drop(0)", x.drop(0), 7);
        e.due("drop(1)", x.drop(1), ThatchCoats.NULL);
        e.due("roof()", x.roof(), 0);
        e.due("rains(0): the tape was 9+4", x.rains(0), 4);
    }

    private static ThatchCoats imaged() {
        ThatchCoats x = Check.told("20+6;r4,w3");
        x.years(2);
        x.sheet(1, 1, 4);
        x.item(1, 1, 3, 5);
        x.type('9');
        x.image();
        return x;
    }
}
