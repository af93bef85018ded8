/** Boundary cases of promises 1 to 7 and 9, and of what section 1 says ahead of them. */
final class ToldEdges {
    private static final int BAD = ThatchCoats.BAD, FULL = ThatchCoats.FULL;
    private static final int MIN = Integer.MIN_VALUE, MAX = Integer.MAX_VALUE;
    static final String TEN_COATS = "99;r1,w2,s3,y4,t5,r6,w7,s8,y9,t10";

    private final Edges e;

    ToldEdges(Edges e) {
        this.e = e;
    }

    void run() {
        constants();
        atFirst();
        coats();
        whatWallsBear();
        rowOfRains();
        rainsThatComeRound();
        newObject();
        walls();
        rain();
        dry();
        of();
        rains();
        type();
        count();
    }

    private void constants() {
        e.terms("BAD -1 (a number is not as told, there is no such thing), NOT -2 (as told), FULL -3, NONE -4 (as "
            + "told), CAST -12 (of SHEETS another LANE); what the machine finds: NULL -11, INDEX -13, SIZE -14");
        e.due("BAD", ThatchCoats.BAD, -1);
        e.due("NOT", ThatchCoats.NOT, -2);
        e.due("FULL", ThatchCoats.FULL, -3);
        e.due("NONE", ThatchCoats.NONE, -4);
        e.due("NULL", ThatchCoats.NULL, -11);
        e.due("CAST", ThatchCoats.CAST, -12);
        e.due("INDEX", ThatchCoats.INDEX, -13);
        e.due("SIZE", ThatchCoats.SIZE, -14);
        ThatchCoats x = Check.told("10;r5~9");
        e.due("walls(0): not as told", x.walls(0), -1);
        e.due("of(1, 0): no such thing", x.of(1, 0), -1);
        e.due("lay(0, 7)", x.lay(0, 7), -2);
        e.due("years to 10000", DoneEdges.inYear(9999).years(1), -3);
        e.due("undo()", x.undo(), -4);
        e.due("drop(0)", x.drop(0), -11);
        x.sheet(0, 0, 1);
        e.due("item of another LANE", x.item(0, 1, 0, 0), -12);
        e.due("item 1 of one", x.item(0, 0, 1, 0), -13);
        e.due("a row of -1", x.sheet(0, 0, -1), -14);
    }

    private void atFirst() {
        e.terms("It is YEAR 0 at first; LEAKED in all is 0.");
        ThatchCoats x = new ThatchCoats();
        e.due("count(3)", x.count(3), 0);
        e.due("count(4)", x.count(4), 0);
        x.lay(0, 1);
        e.due("of(0, 3): LAID in YEAR 0", x.of(0, 3), 0);
        x.rain(7);
        x.rain(8);
        e.due("rains(0) in YEAR 0", x.rains(0), 7);
    }

    private void coats() {
        e.terms("COATS 0 .. 9 lie one over the other, 0 the undermost (10 at most); each is of a KIND of straw, THICK "
            + "by 1 .. 20, DAMP by 0 .. 9, LAID in a YEAR.");
        ThatchCoats x = Check.told(TEN_COATS);
        e.due("count(0)", x.count(0), 10);
        for (int coat = 0; coat <= 9; coat++) {
            e.coat(x, coat, coat % 5, coat + 1, 0);
        }
        e.due("of(10, 0)", x.of(10, 0), BAD);
        e.due("lay: an eleventh", x.lay(0, 1), FULL);
        x.strip(1);
        e.due("of(9, 0) of nine", x.of(9, 0), BAD);
        e.due("lay: a tenth", x.lay(4, 20), 9);
        e.coat(x, 9, 4, 20, 0);
        e.due("fire takes the uppermost", x.fire(20), 1);
        e.coat(x, 0, 0, 1, 0);
        x = Check.told("9+40;r1~9,t20~8");
        x.years(1);
        e.coat(x, 0, 0, 1, 7);
        e.coat(x, 1, 4, 19, 9);
        x = new ThatchCoats();
        e.due("THICK by 0", x.lay(0, 0), BAD);
        e.due("THICK by 21", x.lay(0, 21), BAD);
        e.due("THICK by 1", x.lay(0, 1), 0);
        e.due("THICK by 20", x.lay(0, 20), 1);
        x.years(1);
        x.lay(0, 5);
        e.due("of(1, 3)", x.of(1, 3), 0);
        e.due("of(2, 3)", x.of(2, 3), 1);
    }

    private void whatWallsBear() {
        e.terms("WALLS bear 1 .. 200 (80 at first).");
        ThatchCoats x = new ThatchCoats();
        e.due("count(1)", x.count(1), 80);
        e.due("walls(200)", x.walls(200), 80);
        for (int i = 0; i < 10; i++) {
            e.due("lay(0, 20): WALLS bear 200", x.lay(0, 20), i);
        }
        e.due("count(7) of 200", x.count(7), 1);
        x.walls(199);
        e.due("count(7) of 200", x.count(7), 0);
        x.strip(10);
        x.walls(1);
        e.due("lay(0, 2): WALLS bear 1", x.lay(0, 2), ThatchCoats.NOT);
        e.due("lay(0, 1): WALLS bear 1", x.lay(0, 1), 0);
        e.due("walls(0)", x.walls(0), BAD);
        e.due("walls(201)", x.walls(201), BAD);
    }

    private void rowOfRains() {
        e.terms("RAINS are a row of 0 to 8 numbers 0 .. 40;");
        ThatchCoats x = new ThatchCoats();
        e.due("count(2)", x.count(2), 0);
        e.due("rain(0)", x.rain(0), 1);
        e.due("rain(40)", x.rain(40), 2);
        e.due("rain(-1)", x.rain(-1), BAD);
        e.due("rain(41)", x.rain(41), BAD);
        for (int i = 3; i <= 8; i++) {
            e.due("rain", x.rain(i), i);
        }
        e.due("a ninth", x.rain(9), FULL);
        int[] want = {0, 40, 3, 4, 5, 6, 7, 8};
        for (int n = 0; n < 8; n++) {
            e.due("rains(" + n + ")", x.rains(n), want[n]);
        }
    }

    private void rainsThatComeRound() {
        e.terms("in YEAR y it RAINS by the one that has the number y, left over by how many there are (0, if there are "
            + "none).");
        ThatchCoats x = new ThatchCoats();
        e.due("rains(0): none", x.rains(0), 0);
        e.due("rains(40): none", x.rains(40), 0);
        e.due("years(1): none", x.years(1), 0);
        x.rain(11);
        e.due("rains(0) of one", x.rains(0), 11);
        e.due("rains(40) of one", x.rains(40), 11);
        x.rain(22);
        e.due("YEAR 1 of two", x.rains(0), 22);
        e.due("YEAR 2 of two: round", x.rains(1), 11);
        e.due("years(1) in YEAR 1", x.years(1), 22);
        e.due("years(1) in YEAR 2", x.years(1), 11);
        x.rain(33);
        e.due("YEAR 3 of three: round", x.rains(0), 11);
        e.due("YEAR 5 of three", x.rains(2), 33);
        x.dry();
        e.due("none again", x.rains(0), 0);
        x = DoneEdges.inYear(9999);
        x.dry();
        for (int i = 0; i < 8; i++) {
            x.rain(10 + i);
        }
        e.due("YEAR 9999 of eight", x.rains(0), 10 + 9999 % 8);
        e.due("YEAR 10039 of eight", x.rains(40), 10 + 10039 % 8);
    }

    private void newObject() {
        e.promise(1, "Walls, no coat, no rains.");
        ThatchCoats x = new ThatchCoats();
        int[] want = {0, 80, 0, 0, 0, 0, 0, 1, 0};
        for (int what = 0; what < want.length; what++) {
            e.due("count(" + what + ")", x.count(what), want[what]);
        }
        e.due("of(0, 0)", x.of(0, 0), BAD);
        e.due("rains(0)", x.rains(0), 0);
        e.due("seed(1)", x.seed(1), 1);
        e.due("undo()", x.undo(), ThatchCoats.NONE);
        e.due("restore()", x.restore(), ThatchCoats.NONE);
        e.due("type: an empty tape", x.type('9'), 1);
        for (int sheet = 0; sheet < 4; sheet++) {
            e.due("drop(" + sheet + ")", x.drop(sheet), ThatchCoats.NULL);
        }
        ThatchCoats other = new ThatchCoats();
        other.walls(5);
        other.rain(6);
        other.sheet(0, 0, 3);
        e.due("one object's walls are not another's", x.count(1), 80);
        e.due("one object's rains are not another's", x.count(2), 0);
        e.due("one object's sheets are not another's", x.drop(0), ThatchCoats.NULL);
    }

    private void walls() {
        e.promise(2, "WALLS bear v: what they did. BAD.");
        ThatchCoats x = Check.told("40;r20~9");
        e.due("walls(1): less than lies on them", x.walls(1), 80);
        e.due("count(0): all still lies there", x.count(0), 1);
        e.due("walls(200)", x.walls(200), 1);
        for (int v : new int[] {0, -1, 201, MIN, MAX}) {
            e.unchanged("walls(" + v + ")", () -> Check.told("40;r20~9"), y -> y.walls(v), BAD);
        }
        e.due("walls(200) again", x.walls(200), 200);
    }

    private void rain() {
        e.promise(3, "One more behind RAINS: how many there are. BAD; FULL: 8.");
        for (int v : new int[] {-1, 41, MIN, MAX}) {
            e.unchanged("rain(" + v + ")", () -> Check.told("9+7"), y -> y.rain(v), BAD);
        }
        ThatchCoats x = Check.told("9+1+2+3+4+5+6+7");
        e.due("rain(40): the eighth", x.rain(40), 8);
        e.due("rains(7)", x.rains(7), 40);
        e.due("rain(0): a ninth", x.rain(0), FULL);
        e.due("rain(41): BAD is named first", x.rain(41), BAD);
        e.unchanged("rain(0): a ninth", () -> Check.told("9+1+2+3+4+5+6+7+8"), y -> y.rain(0), FULL);
    }

    private void dry() {
        e.promise(4, "RAINS are none: how many there were.");
        ThatchCoats x = new ThatchCoats();
        e.due("dry() of none", x.dry(), 0);
        x = Check.told("9+1+2+3+4+5+6+7+8");
        e.due("dry() of eight", x.dry(), 8);
        e.due("dry() again", x.dry(), 0);
        e.due("rains(3)", x.rains(3), 0);
        e.due("rain(5): the first again", x.rain(5), 1);
        e.due("rains(3)", x.rains(3), 5);
    }

    private void of() {
        e.promise(5, "Of a COAT: 0 KIND, 1 how THICK, 2 how DAMP, 3 the YEAR in which it was LAID, 4 how much it TAKES "
            + "in this YEAR, at most, 5 how much all above it TAKE so together. BAD.");
        ThatchCoats x = Check.told("99;y5~9,t20,w1");
        int[][] want = {{3, 5, 9, 0, 2, 44}, {4, 20, 0, 0, 44, 0}, {1, 1, 0, 0, 0, 0}};
        for (int coat = 0; coat < 3; coat++) {
            for (int what = 0; what <= 5; what++) {
                e.due("of(" + coat + ", " + what + ")", x.of(coat, what), want[coat][what]);
            }
        }
        x.years(1);
        e.due("of(0, 4) in an odd YEAR", x.of(0, 4), 3);
        x = Check.told(TEN_COATS);
        e.due("of(9, 5): nothing above", x.of(9, 5), 0);
        // w2 s3 y4 t5 r6 w7 s8 y9 t10 take 1, 5, 2, 14, 6, 3, 10, 4, 24
        e.due("of(0, 5): nine above", x.of(0, 5), 1 + 5 + 2 + 14 + 6 + 3 + 10 + 4 + 24);
        int[][] wrong = {{10, 0}, {-1, 0}, {MAX, 0}, {MIN, 0}, {0, -1}, {0, 6}, {0, MAX}, {0, MIN}, {10, 6}};
        for (int[] w : wrong) {
            e.unchanged("of(" + w[0] + ", " + w[1] + ")", () -> Check.told(TEN_COATS), y -> y.of(w[0], w[1]), BAD);
        }
        e.due("of(0, 0) without a coat", new ThatchCoats().of(0, 0), BAD);
        x.strip(10);
        e.due("of(0, 1) of one that is gone", x.of(0, 1), BAD);
    }

    private void rains() {
        e.promise(6, "By how much it RAINS n YEARS (0 .. 40) on. BAD.");
        ThatchCoats x = Check.told("9+1+2+3");
        e.due("rains(0)", x.rains(0), 1);
        e.due("rains(40)", x.rains(40), 2);
        x.years(2);
        e.due("rains(0) in YEAR 2", x.rains(0), 3);
        e.due("rains(1) in YEAR 2", x.rains(1), 1);
        for (int n : new int[] {-1, 41, MIN, MAX}) {
            e.unchanged("rains(" + n + ")", () -> Check.told("9+1+2+3"), y -> y.rains(n), BAD);
        }
        e.due("rains(41) without rains", new ThatchCoats().rains(41), BAD);
    }

    private void type() {
        e.promise(7, "One letter more behind THE TAPE: how many it has. BAD: not 32 .. 126; FULL: 90.");
        for (int letter : new int[] {31, 127, -1, 0, 256 + '9', 65536 + '9', MIN, MAX}) {
            e.unchanged("type(" + letter + ")", () -> typed("9"), y -> y.type(letter), BAD);
        }
        ThatchCoats x = typed(" ".repeat(88) + "9");
        e.due("type(32): the 90th", x.type(32), 90);
        e.due("type(32): one more", x.type(32), FULL);
        e.due("type(126): one more", x.type(126), FULL);
        e.due("type(127): BAD is named first", x.type(127), BAD);
        e.due("roof() of 90 letters", x.roof(), 0);
        e.due("type(126): the tape was empty", x.type(126), 1);
        e.unchanged("type(57): a 91st", () -> typed("9;r3" + " ".repeat(86)), y -> y.type('9'), FULL);
        x = typed("9+1+2+3+4+5+6+7+8;r10~1,r11~2,r12~3,r13~4,r14~5,r15~6,r16~7,r17~8,r18~9,r19~0 ~");
        e.due("roof(): the last letter is the fault", x.roof(), -20 - 78);
        x = typed("9;" + " ".repeat(86) + "r2");
        e.due("type(48): a 91st is not there", x.type('0'), FULL);
        e.due("roof()", x.roof(), 1);
        e.due("of(0, 1): as told by 90 letters", x.of(0, 1), 2);
    }

    static ThatchCoats typed(String text) {
        ThatchCoats x = new ThatchCoats();
        Check.type(x, text);
        return x;
    }

    private void count() {
        e.promise(9, "0 COATS, 1 what WALLS bear, 2 how many RAINS, 3 the YEAR, 4 LEAKED in all, 5 how HEAVY all is, 6 "
            + "how THICK all are together, 7 whether WALLS bear all (1, 0), 8 what may be UNDONE. BAD.");
        ThatchCoats x = Check.told("99+1+2+3+4+5+6+7+40;r20~9,r20~9,r20~9,r20~9,r20~9,r20~9,r20~9,r20~9,r20~9,r20~9");
        int[] most = {10, 198, 8, 0, 0, 290, 200, 0, 0};
        for (int what = 0; what <= 8; what++) {
            e.due("count(" + what + "), the most", x.count(what), most[what]);
        }
        x = Check.told("5+9;r5~4,w1");
        e.due("count(7): just as much as they bear", x.count(7), 1);
        x.walls(9);
        e.due("count(7): one more than they bear", x.count(7), 0);
        x.strip(2);
        x.walls(1);
        e.due("count(7): nothing lies there", x.count(7), 1);
        e.due("count(5)", x.count(5), 0);
        e.due("count(6)", x.count(6), 0);
        x.years(40);
        e.due("count(3)", x.count(3), 40);
        e.due("count(4)", x.count(4), 360);
        e.due("count(8): 8 are known", x.count(8), 8);
        for (int what : new int[] {-1, 9, MIN, MAX}) {
            e.unchanged("count(" + what + ")", () -> Check.told("5+9;r5~4,w1"), y -> y.count(what), BAD);
        }
    }
}
