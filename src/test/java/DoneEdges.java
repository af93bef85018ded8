import java.util.Collections;

/** Boundary cases of promises 10 to 17, and of what sections 1 and 3 say of years, coats, fire, draws, undoing. */
final class DoneEdges {
    private static final int BAD = ThatchCoats.BAD, NOT = ThatchCoats.NOT, FULL = ThatchCoats.FULL,
        NONE = ThatchCoats.NONE;
    private static final int MIN = Integer.MIN_VALUE, MAX = Integer.MAX_VALUE;
    /** The next draw is 12345: a hit, by 128 it is 96. */
    private static final int SEED_THAT_HITS = 0;

    private final Edges e;

    DoneEdges(Edges e) {
        this.e = e;
    }

    void run() {
        takesByKind();
        cut();
        heavy();
        water();
        damper();
        wear();
        laid();
        stripped();
        drawnOut();
        fireOfHeat();
        years();
        yearsToTheLast();
        lay();
        strip();
        pull();
        fire();
        theDraw();
        drawnByDraws();
        drawsBesideAHit();
        coatsBesideTheDrawn();
        drift();
        driftToTheLast();
        undone();
        undoneWhateverWasTold();
        undoneBehindARoof();
        undo();
        undoRoundAndRound();
        seed();
    }

    /** No coat, 1 of rain each YEAR; in 1 and 250 calls at most. */
    static ThatchCoats inYear(int year) {
        ThatchCoats x = new ThatchCoats();
        x.rain(1);
        for (int i = 0; i < year / 40; i++) {
            x.years(40);
        }
        if (year % 40 != 0) {
            x.years(year % 40);
        }
        return x;
    }

    private static String coats(String coat, int n) {
        return String.join(",", Collections.nCopies(n, coat));
    }

    private void takesByKind() {
        e.terms("a COAT TAKES, at most, by KIND: 0 REED: as it is THICK. Below it 1 WHEAT: half of that. 2 SEDGE "
            + "(below REED): as REED; 2 more, if it is DAMP by 0. 3 RYE (below WHEAT): as WHEAT; 1 more in YEARS of an "
            + "odd number. 4 TURF (below SEDGE): twice as much as SEDGE.");
        String[] roofs = {"99;r1,w1,s1,y1,t1,r1~1,w1~1,s1~1,y1~1,t1~1",
            "99;r20,w20,s20,y20,t20,r20~9,w20~9,s20~9,y20~9,t20~9"};
        int[][] want = {{1, 0, 3, 0, 6, 1, 0, 1, 0, 2}, {20, 10, 22, 10, 44, 20, 10, 20, 10, 40}};
        for (int i = 0; i < 2; i++) {
            ThatchCoats x = Check.told(roofs[i]);
            for (int coat = 0; coat < 10; coat++) {
                e.due("of(" + coat + ", 4)", x.of(coat, 4), want[i][coat]);
            }
        }
        ThatchCoats x = Check.told("99;y1,y20,r20");
        int[] least = {0, 1, 0, 1};
        for (int year = 0; year < 4; year++) {
            e.due("of(0, 4): RYE in YEAR " + year, x.of(0, 4), least[year]);
            e.due("of(1, 4): RYE in YEAR " + year, x.of(1, 4), 10 + least[year]);
            x.years(1);
        }
        x = inYear(9998);
        x.lay(3, 20);
        e.due("RYE in YEAR 9998", x.of(0, 4), 10);
        x.years(1);
        e.due("RYE, THICK by 19, in YEAR 9999", x.of(0, 4), 9 + 1);
    }

    private void cut() {
        e.terms("What is divided is cut.");
        ThatchCoats x = Check.told("99;w1,w2,w3,w19,y3,y1");
        int[] want = {0, 1, 1, 9, 1, 0};
        for (int coat = 0; coat < want.length; coat++) {
            e.due("of(" + coat + ", 4)", x.of(coat, 4), want[coat]);
        }
        x = Check.told("99+7;r3,r3,r1");
        x.years(1);
        e.due("half of 3 is 1", x.of(0, 2), 1);
        e.due("half of 3 is 1", x.of(1, 2), 1);
    }

    private void heavy() {
        e.terms("HEAVY is a COAT by how THICK, and by how DAMP it is.");
        e.due("the least", Check.told("9;r1").count(5), 1);
        e.due("the most", Check.told("9;t20~9").count(5), 29);
        e.due("of none", new ThatchCoats().count(5), 0);
        e.due("whatever its KIND", Check.told("9;r3~4,w3~4,s3~4,y3~4,t3~4").count(5), 35);
    }

    private void water() {
        e.terms("water, as it RAINS, comes to the uppermost COAT; each TAKES as much as it can, by how all is ahead of "
            + "the YEAR; the rest comes to the one below; what is left behind the undermost one LEAKS.");
        e.due("no coat: all of it leaks", Check.told("9+40").years(1), 40);
        e.due("it does not rain", Check.told("9+0;w1").years(1), 0);
        e.due("as much as is taken", Check.told("9+12;r5,w6,s2").years(1), 0);
        e.due("one more", Check.told("9+13;r5,w6,s2").years(1), 1);
        e.due("one taken by none", Check.told("9+1;w1,w1").years(1), 1);
        // the uppermost is dry ahead of the YEAR, so TURF takes 2 more by twice in it, not in the next
        ThatchCoats x = Check.told("9+8;t2");
        e.due("dry ahead of the YEAR", x.years(1), 0);
        e.due("damp ahead of the next", x.years(1), 8 - 2);
        x = Check.told("9+3;w9,r3");
        x.years(1);
        e.coat(x, 1, 0, 2, 1);
        e.coat(x, 0, 1, 9, 0);
        x = Check.told("9+9;s5,t1~9");
        e.due("the uppermost first: 2 and 7 of 9", x.years(1), 0);
        e.coat(x, 0, 2, 5, 3);
    }

    private void damper() {
        e.terms("Then each COAT is DAMPER by half of what it took (9 at most), and by 2 less DAMP, if it took nothing "
            + "(0 at least).");
        int[][] rainDampThen = {{0, 0, 0}, {0, 1, 0}, {0, 2, 0}, {0, 3, 1}, {0, 9, 7}, {1, 0, 0}, {1, 5, 5}, {1, 9, 9},
            {2, 0, 1}, {2, 8, 9}, {2, 9, 9}, {3, 0, 1}, {3, 5, 6}, {4, 7, 9}, {5, 8, 9}, {18, 0, 9}, {19, 0, 9},
            {17, 0, 8}, {20, 0, 9}, {40, 9, 9}, {40, 0, 9}};
        for (int[] r : rainDampThen) {
            ThatchCoats x = Check.told("9+" + r[0] + ";r20~" + r[1]);
            x.years(1);
            e.due("REED of DAMP " + r[1] + " by " + r[0], x.of(0, 2), r[2]);
        }
        ThatchCoats x = Check.told("9+9;r3~9,w1~3,r2~1,w1~2,w1~9");
        x.years(1);
        e.due("the uppermost is gone", x.count(0), 4);
        e.due("w1 took nothing, though water came to it", x.of(3, 2), 0);
        e.due("r2 took 2", x.of(2, 2), 2);
        e.due("w1 took nothing", x.of(1, 2), 1);
        e.due("r3 took 3", x.of(0, 2), 9);
    }

    private void wear() {
        e.terms("Then the uppermost COAT is 1 less THICK; if it is THICK by 0 then, it is gone. It is the next YEAR.");
        ThatchCoats x = Check.told("9;r3,w1,s2");
        x.years(1);
        e.due("count(0)", x.count(0), 3);
        e.coat(x, 2, 2, 1, 0);
        e.coat(x, 1, 1, 1, 0);
        x.years(1);
        e.due("count(0): THICK by 0, gone", x.count(0), 2);
        e.due("of(2, 0)", x.of(2, 0), BAD);
        e.coat(x, 1, 1, 1, 0);
        e.due("count(3)", x.count(3), 2);
        x.years(4);
        e.due("count(0): none is left", x.count(0), 0);
        x.years(1);
        e.due("count(0): none to wear", x.count(0), 0);
        e.due("count(3)", x.count(3), 7);
        x = Check.told("9;" + coats("r1", 10));
        x.years(9);
        e.due("count(0): one goes each YEAR", x.count(0), 1);
    }

    private void laid() {
        e.terms("LAID: a new COAT over all (DAMP by 0), if the WALLS bear all then.");
        ThatchCoats x = Check.told("10+3;r5~5");
        e.due("lay: one more than they bear", x.lay(1, 11), NOT);
        e.due("lay: just what they bear", x.lay(1, 10), 1);
        e.coat(x, 1, 1, 10, 0);
        e.coat(x, 0, 0, 5, 5);
        e.due("lay: they bear no more", x.lay(1, 1), NOT);
        x = Check.told("1;r20~9");
        e.due("lay over what is too heavy", x.lay(0, 1), NOT);
        x.walls(30);
        e.due("lay", x.lay(4, 1), 1);
    }

    private void stripped() {
        e.terms("STRIPPED: n uppermost COATS are gone.");
        ThatchCoats x = Check.told(ToldEdges.TEN_COATS);
        e.due("strip(1)", x.strip(1), 9);
        e.coat(x, 8, 3, 9, 0);
        e.due("of(9, 0)", x.of(9, 0), BAD);
        e.due("strip(8)", x.strip(8), 1);
        e.coat(x, 0, 0, 1, 0);
        e.due("strip(1): the last", x.strip(1), 0);
        e.due("strip(10) of ten", Check.told(ToldEdges.TEN_COATS).strip(10), 0);
    }

    private void drawnOut() {
        e.terms("DRAWN out: a COAT is n less THICK (1 at least).");
        int[][] thickByThen = {{20, 1, 19}, {20, 18, 2}, {20, 19, 1}, {20, 20, 1}, {2, 1, 1}, {2, 20, 1}, {5, 4, 1},
            {5, 5, 1}};
        for (int[] t : thickByThen) {
            ThatchCoats x = Check.told("9;w3~2,s" + t[0] + "~7,r4");
            e.due(t[0] + " by " + t[1], x.pull(1, t[1]), t[2]);
            e.coat(x, 0, 1, 3, 2);
            e.coat(x, 1, 2, t[2], 7);
            e.coat(x, 2, 0, 4, 0);
        }
    }

    private void fireOfHeat() {
        e.terms("A FIRE of HEAT h, from above: a COAT that is DAMP by more than 6 stops it; any other one is burnt "
            + "(gone), if HEAT is as much as it is THICK and DAMP together, or more; HEAT is less by that, and it "
            + "comes to the next one; else it stops.");
        String[] roofs = {"9;r1", "9;r1", "9;r5~6", "9;r5~6", "9;r5~7", "9;r1~9", "9;r2,r5,r3", "9;r2,r5,r3",
            "9;r2,r5,r3", "9;r2,r5,r3", "9;r2,r5,r3", "9;r1,r9", "9;r1,r2~7,r3", "9;r1~7,r2,r3", "9;r1~6,r2,r3"};
        int[] heats = {0, 1, 10, 11, 999, 999, 2, 3, 7, 8, 10, 8, 999, 999, 999};
        int[] burnt = {0, 1, 0, 1, 0, 0, 0, 1, 1, 2, 3, 0, 1, 2, 3};
        for (int i = 0; i < roofs.length; i++) {
            ThatchCoats x = Check.told(roofs[i]);
            int before = x.count(0);
            e.due("\"" + roofs[i] + "\" by " + heats[i], x.fire(heats[i]), burnt[i]);
            e.due("count(0)", x.count(0), before - burnt[i]);
        }
        ThatchCoats x = Check.told("9;" + coats("r20~6", 10));
        e.due("ten, one short", x.fire(259), 9);
        x = Check.told("9;" + coats("r20~6", 10));
        e.due("ten", x.fire(260), 10);
    }

    private void years() {
        e.promise(10, "n YEARS (1 .. 40; each by itself may be UNDONE): how much LEAKED in them.");
        ThatchCoats x = Check.told("9+1+2+3");
        e.due("years(1)", x.years(1), 1);
        e.due("count(8)", x.count(8), 1);
        e.due("years(40)", x.years(40), 13 * 6 + 2);
        e.due("count(3)", x.count(3), 41);
        e.due("count(8)", x.count(8), 8);
        e.due("undo(): one YEAR", x.undo(), 7);
        e.due("count(3)", x.count(3), 40);
        e.due("count(4)", x.count(4), 13 * 6 + 1);
        e.promise(10, "BAD;");
        for (int n : new int[] {0, -1, 41, MIN, MAX}) {
            e.unchanged("years(" + n + ")", () -> Check.told("9+1;r5"), y -> y.years(n), BAD);
        }
    }

    private void yearsToTheLast() {
        e.promise(10, "FULL: the YEAR would be above 9999.");
        ThatchCoats x = inYear(9960);
        e.due("years(40): to 10000", x.years(40), FULL);
        e.due("count(3): nothing is changed", x.count(3), 9960);
        e.due("count(4): nothing is changed", x.count(4), 9960);
        e.due("years(39): to 9999", x.years(39), 39);
        e.due("count(3)", x.count(3), 9999);
        e.due("years(1): to 10000", x.years(1), FULL);
        e.due("years(41): BAD is named first", x.years(41), BAD);
        e.due("years(0): BAD is named first", x.years(0), BAD);
        e.due("undo()", x.undo(), 7);
        e.due("years(2): to 10000", x.years(2), FULL);
        e.due("years(1): to 9999 again", x.years(1), 1);
        e.due("lay in YEAR 9999", x.lay(0, 3), 0);
        e.due("of(0, 3)", x.of(0, 3), 9999);
        e.unchanged("years(1) in YEAR 9999", () -> inYear(9999), y -> y.years(1), FULL);
        e.unchanged("years(40) in YEAR 9960", () -> inYear(9960), y -> y.years(40), FULL);
    }

    private void lay() {
        e.promise(11, "LAID: its number. BAD; FULL: 10; NOT: WALLS would not bear all.");
        int[][] wrong = {{-1, 1}, {5, 1}, {MIN, 1}, {MAX, 1}, {0, 0}, {0, -1}, {0, 21}, {4, MIN}, {4, MAX}};
        for (int[] w : wrong) {
            e.unchanged("lay(" + w[0] + ", " + w[1] + ")", () -> Check.told("9;r5"), y -> y.lay(w[0], w[1]), BAD);
        }
        ThatchCoats x = new ThatchCoats();
        x.walls(200);
        for (int i = 0; i < 10; i++) {
            e.due("lay: its number", x.lay(i % 5, i % 2 == 0 ? 1 : 20), i);
        }
        e.due("lay: an eleventh", x.lay(0, 1), FULL);
        e.due("lay(5, 1): BAD is named first", x.lay(5, 1), BAD);
        x.walls(1);
        e.due("lay: FULL is named ahead of NOT", x.lay(0, 1), FULL);
        e.due("lay(0, 21): BAD is named first", x.lay(0, 21), BAD);
        e.unchanged("lay: an eleventh", () -> Check.told(ToldEdges.TEN_COATS), y -> y.lay(0, 1), FULL);
        e.unchanged("lay: too heavy by 1", () -> Check.told("9;r9~4"), y -> y.lay(0, 6), NOT);
        e.due("lay: just not too heavy", Check.told("9;r9~4").lay(0, 5), 1);
        e.due("lay(0, 0): BAD ahead of NOT", Check.told("1;r9").lay(0, 0), BAD);
    }

    private void strip() {
        e.promise(12, "STRIPPED of n (1 .. 10): how many are left. BAD; NOT: there are not so many.");
        for (int n : new int[] {0, -1, 11, MIN, MAX}) {
            e.unchanged("strip(" + n + ")", () -> Check.told("9;r1,r2,r3"), y -> y.strip(n), BAD);
        }
        for (int n : new int[] {4, 10}) {
            e.unchanged("strip(" + n + ") of three", () -> Check.told("9;r1,r2,r3"), y -> y.strip(n), NOT);
        }
        e.due("strip(3) of three", Check.told("9;r1,r2,r3").strip(3), 0);
        e.due("strip(10) of ten", Check.told(ToldEdges.TEN_COATS).strip(10), 0);
        e.due("strip(11) of ten", Check.told(ToldEdges.TEN_COATS).strip(11), BAD);
        e.due("strip(1) of none", new ThatchCoats().strip(1), NOT);
        e.due("strip(11) of none: BAD is named first", new ThatchCoats().strip(11), BAD);
    }

    private void pull() {
        e.promise(13, "DRAWN out by n (1 .. 20): how THICK it is then. BAD; NOT: it is THICK by 1.");
        int[][] wrong = {{-1, 1}, {2, 1}, {MIN, 1}, {MAX, 1}, {0, 0}, {0, -1}, {0, 21}, {0, MIN}, {0, MAX}};
        for (int[] w : wrong) {
            e.unchanged("pull(" + w[0] + ", " + w[1] + ")", () -> Check.told("9;r5,r1"), y -> y.pull(w[0], w[1]), BAD);
        }
        for (int n : new int[] {1, 20}) {
            e.unchanged("pull(1, " + n + ") of 1", () -> Check.told("9;r5,r1"), y -> y.pull(1, n), NOT);
        }
        ThatchCoats x = Check.told("9;r20,r2");
        e.due("pull(1, 1)", x.pull(1, 1), 1);
        e.due("pull(1, 1) again", x.pull(1, 1), NOT);
        e.due("pull(1, 21): BAD is named first", x.pull(1, 21), BAD);
        e.due("pull(0, 20)", x.pull(0, 20), 1);
        e.due("count(0): none is gone", x.count(0), 2);
        e.due("pull(9, 1) of ten", Check.told(ToldEdges.TEN_COATS).pull(9, 1), 9);
        e.due("pull(0, 1) without coats", new ThatchCoats().pull(0, 1), BAD);
    }

    private void fire() {
        e.promise(14, "A FIRE of HEAT (0 .. 999): how many are burnt. BAD.");
        for (int heat : new int[] {-1, 1000, MIN, MAX}) {
            e.unchanged("fire(" + heat + ")", () -> Check.told("9;r5,r1"), y -> y.fire(heat), BAD);
        }
        ThatchCoats x = Check.told("9;r5,r1");
        e.due("fire(0)", x.fire(0), 0);
        e.due("count(8): it may be undone, though nothing burnt", x.count(8), 1);
        e.due("fire(999)", x.fire(999), 2);
        e.due("fire(999) of none", x.fire(999), 0);
        e.due("count(8)", x.count(8), 3);
        x.undo();
        e.due("undo()", x.undo(), 1);
        e.coat(x, 0, 0, 5, 0);
        e.coat(x, 1, 0, 1, 0);
    }

    private void theDraw() {
        e.terms("THE DRAW is a number of 31 bits (1 at first); ahead of each YEAR of a DRIFT it becomes the lowest 31 "
            + "bits of itself times 1103515245 and 12345 more:");
        ThatchCoats x = new ThatchCoats();
        e.due("at first", x.seed(1), 1);
        int[] draws = {1103527590, 377401575, 662824084, 1147902781, 2035015474, 368800899};
        for (int draw : draws) {
            x.drift(1);
            e.due("the next", x.seed(draw), draw);
        }
        x.seed(0);
        x.drift(1);
        e.due("behind 0", x.seed(MAX), 12345);
        x.drift(1);
        e.due("behind the highest", x.seed(1), 1043980748);
        x.drift(6);
        e.due("once ahead of each YEAR", x.seed(1), 368800899);
        x.years(40);
        e.due("YEARS of no DRIFT do not draw", x.seed(1), 1);
    }

    private void drawnByDraws() {
        e.terms("if it by 65536, left over by 3, is 0, the COAT that is it by 128, left over by how many there are, is "
            + "DRAWN out by 1 (if there are any, and it is THICK by more than 1).");
        // 0 becomes 12345: by 65536 it is 0; by 128 it is 96: of 5 coats 1, of 7 5, of 10 6, of 3 0
        ThatchCoats x = Check.told("99;r9,r9,r9,r9,r9");
        x.seed(SEED_THAT_HITS);
        x.drift(1);
        int[] ofFive = {9, 8, 9, 9, 8};
        for (int coat = 0; coat < 5; coat++) {
            e.due("of five, " + coat, x.of(coat, 1), ofFive[coat]);
        }
        x = Check.told("99;" + coats("r9", 10));
        x.seed(SEED_THAT_HITS);
        x.drift(1);
        for (int coat = 0; coat < 10; coat++) {
            e.due("of ten, " + coat, x.of(coat, 1), coat == 6 || coat == 9 ? 8 : 9);
        }
        // 1 becomes 1103527590, by 65536 16838, left over 2; then 377401575, by 65536 5758, left over 1
        x = Check.told("99;r9,r9,r9");
        x.drift(2);
        e.due("left over by 3 is 2, then 1", x.count(6), 27 - 2);
        // then 662824084, by 65536 10113, left over 0; by 128 5178313, left over by 3 is 1
        x.drift(1);
        e.due("left over by 3 is 0", x.of(1, 1), 8);
        x = Check.told("99;r1,r9,r9");
        x.seed(SEED_THAT_HITS);
        x.drift(1);
        e.due("THICK by 1: it is not drawn out", x.of(0, 1), 1);
        x = Check.told("99;r2,r9,r9");
        x.seed(SEED_THAT_HITS);
        x.drift(1);
        e.due("THICK by 2: it is", x.of(0, 1), 1);
        x = Check.told("99+2;r2");
        x.seed(SEED_THAT_HITS);
        e.due("drawn out ahead of the YEAR, it takes less", x.drift(1), 1);
        e.due("and is gone behind it", x.count(0), 0);
        x = Check.told("99+7");
        x.seed(SEED_THAT_HITS);
        e.due("there are none", x.drift(1), 7);
        e.due("but it is drawn", x.seed(0), 12345);
    }

    /** The number that becomes this draw: what times 1103515245 comes round to 1, by Newton's steps. */
    private static int seedAheadOf(long draw) {
        long inverse = 1;
        for (int i = 0; i < 6; i++) {
            inverse *= 2 - 1103515245L * inverse;
        }
        return (int) ((draw - 12345) * inverse & 0x7fffffffL);
    }

    private void drawsBesideAHit() {
        e.terms("if it by 65536, left over by 3, is 0,");
        long[][] drawAndHit = {{0, 1}, {65535, 1}, {65536, 0}, {131071, 0}, {131072, 0}, {196607, 0}, {196608, 1},
            {262143, 1}, {262144, 0}, {32766L * 65536 - 1, 0}, {32766L * 65536, 1}, {32767L * 65536 - 1, 1},
            {32767L * 65536, 0}, {MAX, 0}};
        for (long[] d : drawAndHit) {
            ThatchCoats x = Check.told("99;r9");
            x.seed(seedAheadOf(d[0]));
            x.drift(1);
            e.due("THE DRAW", x.seed(1), d[0]);
            e.due("THICK by 9, by " + d[0], x.of(0, 1), 8 - d[1]);
        }
    }

    private void coatsBesideTheDrawn() {
        e.terms("the COAT that is it by 128, left over by how many there are, is DRAWN out by 1");
        long[][] drawCoatsAndDrawn = {{0, 3, 0}, {127, 3, 0}, {128, 3, 1}, {255, 3, 1}, {256, 3, 2}, {383, 3, 2},
            {384, 3, 0}, {128 * 9, 10, 9}, {128 * 10 - 1, 10, 9}, {128 * 10, 10, 0}, {65535, 10, 1}, {128 * 7, 1, 0},
            {32767L * 65536 - 1, 2, 1}, {32766L * 65536, 2, 0}};
        for (long[] d : drawCoatsAndDrawn) {
            int n = (int) d[1];
            ThatchCoats x = Check.told("99;" + coats("r9", n));
            x.seed(seedAheadOf(d[0]));
            x.drift(1);
            for (int coat = 0; coat < n; coat++) {
                int worn = coat == n - 1 ? 1 : 0;
                int drawn = coat == d[2] ? 1 : 0;
                e.due("coat " + coat + " of " + n + " by " + d[0], x.of(coat, 1), 9 - worn - drawn);
            }
        }
    }

    private void drift() {
        e.promise(15, "A DRIFT of n YEARS (1 .. 40; each with what is DRAWN out one that may be UNDONE): how much "
            + "LEAKED in them.");
        ThatchCoats x = Check.told("9+1+2+3");
        e.due("drift(1)", x.drift(1), 1);
        e.due("count(8)", x.count(8), 1);
        e.due("drift(40)", x.drift(40), 13 * 6 + 2);
        e.due("count(3)", x.count(3), 41);
        e.due("count(8)", x.count(8), 8);
        x = Check.told("99+3;r9,r9,r9");
        x.seed(SEED_THAT_HITS);
        x.drift(1);
        e.due("count(8): YEAR and what is DRAWN out are one", x.count(8), 1);
        e.coat(x, 0, 0, 8, 0);
        e.due("undo()", x.undo(), 0);
        e.coat(x, 0, 0, 9, 0);
        e.coat(x, 2, 0, 9, 0);
        e.due("seed: THE DRAW is as ahead of it", x.seed(0), 0);
        e.promise(15, "BAD;");
        for (int n : new int[] {0, -1, 41, MIN, MAX}) {
            e.unchanged("drift(" + n + ")", () -> Check.told("9+1;r5"), y -> y.drift(n), BAD);
        }
    }

    private void driftToTheLast() {
        e.promise(15, "FULL: likewise.");
        ThatchCoats x = inYear(9960);
        e.due("drift(40): to 10000", x.drift(40), FULL);
        e.due("count(3): nothing is changed", x.count(3), 9960);
        e.due("seed: nothing is drawn", x.seed(1), 1);
        e.due("drift(39): to 9999", x.drift(39), 39);
        e.due("count(3)", x.count(3), 9999);
        e.due("drift(1): to 10000", x.drift(1), FULL);
        e.due("drift(41): BAD is named first", x.drift(41), BAD);
        e.due("drift(0): BAD is named first", x.drift(0), BAD);
        e.unchanged("drift(1) in YEAR 9999", () -> inYear(9999), y -> y.drift(1), FULL);
        e.unchanged("drift(2) in YEAR 9998", () -> inYear(9998), y -> y.drift(2), FULL);
        e.due("drift(1) in YEAR 9998", inYear(9998).drift(1), 1);
    }

    private void undone() {
        e.terms("UNDONE: the latest YEAR, LAID, STRIPPED, DRAWN, FIRE is as it had not been (8 are known, older ones "
            + "lost):");
        ThatchCoats x = Check.told("99+9;r5,w5,s5");
        String[] seen = new String[10];
        for (int i = 0; i < 10; i++) {
            seen[i] = Seen.undoable(x);
            switch (i % 6) {
                case 0: x.years(1); break;
                case 1: x.lay(3, 4); break;
                case 2: x.pull(1, 1); break;
                case 3: x.fire(4); break;
                case 4: x.strip(1); break;
                default: x.drift(1); break;
            }
            e.due("count(8) behind " + (i + 1), x.count(8), Math.min(8, i + 1));
        }
        for (int i = 9; i >= 2; i--) {
            e.due("undo()", x.undo(), i - 2);
            e.same("as ahead of " + i, Seen.undoable(x), seen[i]);
        }
        e.due("undo(): the first two are lost", x.undo(), NONE);
        e.due("count(8)", x.count(8), 0);
    }

    private void undoneWhateverWasTold() {
        e.terms("all COATS, LEAKED in all, the YEAR, THE DRAW are as ahead of it, whatever was told since;");
        ThatchCoats x = Check.told("45+9+8;r5,w5");
        x.seed(55);
        x.drift(1);
        x.walls(3);
        x.rain(7);
        x.seed(66);
        e.due("undo()", x.undo(), 0);
        e.coat(x, 0, 0, 5, 0);
        e.coat(x, 1, 1, 5, 0);
        e.due("count(3)", x.count(3), 0);
        e.due("count(4)", x.count(4), 0);
        e.due("seed: told since, but as ahead of it", x.seed(0), 55);
        e.due("count(1): WALLS told since stay", x.count(1), 3);
        e.due("count(2): RAINS told since stay", x.count(2), 3);
        x.strip(1);
        x.dry();
        e.due("undo()", x.undo(), 0);
        e.due("count(2): RAINS told since stay none", x.count(2), 0);
        x.walls(200);
        x.lay(0, 20);
        x.strip(1);
        x.walls(1);
        e.due("undo(): whatever WALLS bear", x.undo(), 1);
        e.due("count(0)", x.count(0), 3);
    }

    private void undoneBehindARoof() {
        e.terms("a ROOF told leaves nothing to be UNDONE.");
        ThatchCoats x = Check.told("9+1;r5");
        x.years(8);
        e.due("count(8)", x.count(8), 8);
        e.due("a FAULT is no ROOF", Check.roof(x, "9+41"), -22);
        e.due("count(8)", x.count(8), 8);
        Check.roof(x, "9");
        e.due("count(8)", x.count(8), 0);
        e.due("undo()", x.undo(), NONE);
        x.years(2);
        e.due("undo()", x.undo(), 1);
        e.due("undo()", x.undo(), 0);
        e.due("undo(): not beyond the ROOF", x.undo(), NONE);
        e.due("count(0)", x.count(0), 0);
    }

    private void undo() {
        e.promise(16, "UNDONE: how many more may be. NONE: none is known.");
        e.unchanged("undo() at first", ThatchCoats::new, ThatchCoats::undo, NONE);
        e.unchanged("undo() of what is told", () -> Check.told("9+1;r5"), ThatchCoats::undo, NONE);
        ThatchCoats x = Check.told("9+1;r5");
        x.walls(7);
        x.rain(7);
        x.seed(7);
        x.sheet(0, 0, 7);
        x.image();
        x.restore();
        x.strip(2);
        x.lay(0, 20);
        e.due("undo(): nothing was done", x.undo(), NONE);
        x.fire(0);
        e.due("undo(): the only one", x.undo(), 0);
        e.due("undo() again", x.undo(), NONE);
        x.years(40);
        for (int i = 7; i >= 0; i--) {
            e.due("undo()", x.undo(), i);
            e.due("count(3)", x.count(3), 32 + i);
        }
        e.due("undo(): 32 YEARS are lost", x.undo(), NONE);
        e.due("count(3)", x.count(3), 32);
    }

    private void undoRoundAndRound() {
        e.promise(16, "UNDONE: how many more may be.");
        ThatchCoats x = new ThatchCoats();
        x.rain(1);
        x.years(5);
        x.undo();
        x.undo();
        x.undo();
        x.years(9);
        e.due("count(3)", x.count(3), 11);
        for (int i = 7; i >= 0; i--) {
            e.due("undo()", x.undo(), i);
            e.due("count(3)", x.count(3), 3 + i);
            e.due("count(4)", x.count(4), 3 + i);
        }
        e.due("undo()", x.undo(), NONE);
        for (int i = 0; i < 20; i++) {
            x.years(1);
            e.due("undo()", x.undo(), 0);
        }
        e.due("count(3)", x.count(3), 3);
    }

    private void seed() {
        e.promise(17, "THE DRAW becomes v: what it was. BAD: below 0.");
        for (int v : new int[] {-1, MIN}) {
            e.unchanged("seed(" + v + ")", () -> Check.told("9+1;r5"), y -> y.seed(v), BAD);
        }
        ThatchCoats x = new ThatchCoats();
        e.due("seed(0)", x.seed(0), 1);
        e.due("seed(MAX)", x.seed(MAX), 0);
        e.due("seed(-1)", x.seed(-1), BAD);
        e.due("seed(3)", x.seed(3), MAX);
    }
}
