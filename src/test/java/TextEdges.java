/** Boundary cases of promise 8: roofs as texts, and their faults. */
final class TextEdges {
    private static final String RAINS_EIGHT = "9+1+2+3+4+5+6+7+8";
    private static final String COATS_TEN = "9;r1,w2,s3,y4,t5,r6,w7,s8,y9,t10";

    private final Edges e;

    TextEdges(Edges e) {
        this.e = e;
    }

    void run() {
        halfOfWalls();
        rains();
        coats();
        kinds();
        thick();
        damp();
        inPlaceOfAll();
        laidInYearZero();
        digits();
        places();
        theEnd();
        blanks();
        emptyThen();
        allElseStays();
    }

    private void stands(String text, int coats) {
        e.due("roof of \"" + text + "\"", Check.roof(new ThatchCoats(), text), coats);
    }

    /** The fault is at that place, and nothing but the tape is another than before. */
    private void fault(String text, int place) {
        e.unchanged("roof of \"" + text + "\"", TextEdges::lived, x -> Check.roof(x, text), -20 - place);
    }

    private static ThatchCoats lived() {
        ThatchCoats x = Check.told("45+12+3;r4~2,w7");
        x.image();
        x.years(3);
        x.seed(77);
        x.sheet(1, 2, 3);
        return x;
    }

    private void halfOfWalls() {
        e.terms("A ROOF is a TEXT: a number 1 .. 99 (half of what WALLS bear);");
        String[] texts = {"1", "01", "9", "99", "40"};
        int[] bear = {2, 2, 18, 198, 80};
        for (int i = 0; i < texts.length; i++) {
            ThatchCoats x = new ThatchCoats();
            e.due("roof of \"" + texts[i] + "\"", Check.roof(x, texts[i]), 0);
            e.due("count(1)", x.count(1), bear[i]);
        }
        fault("0", 0);
        fault("00", 0);
        fault("0+1", 0);
        fault("0;r1", 0);
        fault("+1", 0);
        fault(";r1", 0);
        fault("-1", 0);
        fault("r1", 0);
    }

    private void rains() {
        e.terms("then perhaps + and a number 0 .. 40, and again, up to 8 times (RAINS);");
        ThatchCoats x = Check.told("9");
        e.due("count(2): no rains", x.count(2), 0);
        x = Check.told("9+0+40+00+07");
        int[] want = {0, 40, 0, 7};
        e.due("count(2)", x.count(2), 4);
        for (int n = 0; n < 4; n++) {
            e.due("rains(" + n + ")", x.rains(n), want[n]);
        }
        x = Check.told(RAINS_EIGHT);
        e.due("count(2)", x.count(2), 8);
        e.due("rains(7)", x.rains(7), 8);
        x = Check.told(RAINS_EIGHT + ";r1");
        e.due("count(0) behind eight rains", x.count(0), 1);
        fault("9+41", 2);
        fault("9+99", 2);
        fault("9+1+41", 4);
        fault("9+-1", 2);
        fault("9++1", 2);
        fault("9+;r1", 2);
        fault(RAINS_EIGHT + "+9", 17);
        fault(RAINS_EIGHT + "+", 17);
        fault("9,1", 1);
    }

    private void coats() {
        e.terms("then perhaps ; and 1 to 10 COATS from below up with , between:");
        stands("9", 0);
        stands("9;r1", 1);
        ThatchCoats x = Check.told(COATS_TEN);
        e.due("count(0)", x.count(0), 10);
        for (int coat = 0; coat < 10; coat++) {
            e.coat(x, coat, coat % 5, coat + 1, 0);
        }
        stands(COATS_TEN + "~9", 10);
        fault("9;", 2);
        fault("9;,r1", 2);
        fault("9;;r1", 2);
        fault("9;r1,", 5);
        fault("9;r1,,r1", 5);
        fault("9;r1;r1", 4);
        fault("9;r1w1", 4);
        fault("9;r1+1", 4);
        fault(COATS_TEN + ",r1", 32);
        fault(COATS_TEN + ",", 32);
        fault(COATS_TEN + "~1,r1", 34);
        fault("9r1", 1);
    }

    private void kinds() {
        e.terms("r w s y t (REED, WHEAT, SEDGE, RYE, TURF),");
        ThatchCoats x = Check.told("9;r1,w1,s1,y1,t1");
        for (int kind = 0; kind < 5; kind++) {
            e.due("of(" + kind + ", 0)", x.of(kind, 0), kind);
        }
        for (char letter : "RWSYTqxuv1~+;,!".toCharArray()) {
            fault("9;" + letter + "1", 2);
        }
        fault("9;rr1", 3);
        fault("9;r1,R1", 5);
    }

    private void thick() {
        e.terms("a number 1 .. 20 (THICK),");
        ThatchCoats x = Check.told("9;r1,r20,r01,r9");
        int[] want = {1, 20, 1, 9};
        for (int coat = 0; coat < 4; coat++) {
            e.due("of(" + coat + ", 1)", x.of(coat, 1), want[coat]);
        }
        fault("9;r0", 3);
        fault("9;r00", 3);
        fault("9;r21", 3);
        fault("9;r99", 3);
        fault("9;r0~3", 3);
        fault("9;r5,r21,x", 6);
        fault("9;r", 3);
        fault("9;r,r1", 3);
        fault("9;r~1", 3);
    }

    private void damp() {
        e.terms("then perhaps ~ and a digit (DAMP):");
        ThatchCoats x = Check.told("9;r1~0,r1~9,r1,r1~1");
        int[] want = {0, 9, 0, 1};
        for (int coat = 0; coat < 4; coat++) {
            e.due("of(" + coat + ", 2)", x.of(coat, 2), want[coat]);
        }
        fault("9;r1~", 5);
        fault("9;r1~,r1", 5);
        fault("9;r1~x", 5);
        fault("9;r1~~1", 5);
        fault("9;r1~10", 6);
        fault("9;r1~1~1", 6);
        fault("9;~1", 2);
        fault("9~1", 1);
        fault("9+1~1", 3);
    }

    private void inPlaceOfAll() {
        e.terms("in place of all, whatever WALLS bear;");
        ThatchCoats x = Check.told("99+1+2+3;r9~9,w9,s9");
        e.due("roof of \"1;t20~9,t20~9\"", Check.roof(x, "1;t20~9,t20~9"), 2);
        e.due("count(0)", x.count(0), 2);
        e.due("count(1)", x.count(1), 2);
        e.due("count(2): the old rains are gone", x.count(2), 0);
        e.due("count(5)", x.count(5), 58);
        e.due("count(7): WALLS do not bear it", x.count(7), 0);
        e.due("roof of \"5\"", Check.roof(x, "5"), 0);
        e.due("count(0): the old coats are gone", x.count(0), 0);
    }

    private void laidInYearZero() {
        e.terms("all are LAID in YEAR 0, YEAR 0, LEAKED 0 (THE DRAW stays).");
        ThatchCoats x = Check.told("9+40");
        x.years(5);
        x.lay(0, 1);
        x.seed(4711);
        e.due("count(4) ahead", x.count(4), 200);
        Check.roof(x, "9+3+4;r1,w2");
        e.due("of(0, 3)", x.of(0, 3), 0);
        e.due("of(1, 3)", x.of(1, 3), 0);
        e.due("count(3)", x.count(3), 0);
        e.due("count(4)", x.count(4), 0);
        e.due("rains(0): by YEAR 0", x.rains(0), 3);
        e.due("seed(0)", x.seed(0), 4711);
        x = DoneEdges.inYear(9999);
        e.due("years(1) in YEAR 9999", x.years(1), ThatchCoats.FULL);
        Check.roof(x, "9");
        e.due("years(1) in YEAR 0 again", x.years(1), 0);
    }

    private void digits() {
        e.terms("Numbers have 1 or 2 digits (a third one can't stand there).");
        stands("9+4;r5", 1);
        stands("99+40;r20", 1);
        stands("09+04;r05", 1);
        fault("100", 2);
        fault("999", 2);
        fault("010", 2);
        fault("1000", 2);
        fault("9+100", 4);
        fault("9+400", 4);
        fault("9+000", 4);
        fault("9;r100", 5);
        fault("9;r200", 5);
        fault("9;r010", 5);
        // a choice: such a number is not as told by its two digits, ahead of the third one
        fault("000", 0);
        fault("9+410", 2);
        fault("9;r210", 3);
        fault("9;r001", 3);
    }

    private void places() {
        e.terms("FAULTS: -20 less the place of the first letter (behind blanks) that can't stand there, or of the "
            + "number's first digit, if it is not as told");
        fault("x", 0);
        fault("  x", 2);
        fault("9x", 1);
        fault("9  x", 3);
        fault("9 + x", 4);
        fault("9 + 41", 4);
        fault("  0", 2);
        fault("  00 + 1", 2);
        fault("9 ; R1", 4);
        fault("9 ; r 21", 6);
        fault("9 ; r 1 ~ x", 10);
        fault("9 ; r 1 ~ 1 2", 12);
        fault("9;r1 ; x", 5);
        // of several, the first
        fault("0x", 0);
        fault("9+41+42;r99", 2);
        fault("9+1x;r99", 3);
        fault("~".repeat(90), 0);
        fault(" ".repeat(89) + "~", 89);
    }

    private void theEnd() {
        e.terms("(the end: how many there are);");
        fault("", 0);
        fault(" ", 1);
        fault("   ", 3);
        fault(" ".repeat(90), 90);
        fault("9+", 2);
        fault("9+ ", 3);
        fault("9+40+", 5);
        fault("9;", 2);
        fault("9;  ", 4);
        fault("9;r", 3);
        fault("9;r5,", 5);
        fault("9;r5~", 5);
        fault("9;r5~ ", 6);
        fault("9;r5," + " ".repeat(85), 90);
        fault("9;r5" + " ".repeat(85) + "~", 90);
    }

    private void blanks() {
        e.terms("blanks count for nothing, but end a number.");
        stands(" 9 ", 0);
        stands("9" + " ".repeat(89), 0);
        stands(" ".repeat(89) + "9", 0);
        ThatchCoats x = Check.told("  9  +  4  +  40  ;  r  5  ~  3  ,  t  20  ");
        e.due("count(0)", x.count(0), 2);
        e.due("count(1)", x.count(1), 18);
        e.due("rains(0)", x.rains(0), 4);
        e.due("rains(1)", x.rains(1), 40);
        e.coat(x, 0, 0, 5, 3);
        e.coat(x, 1, 4, 20, 0);
        fault("9 9", 2);
        fault("1 0", 2);
        fault("9+4 0", 4);
        fault("9+4  +1 0", 8);
        fault("9;r2 0", 5);
        fault("9;r1~1 1", 7);
        fault("0 1", 0);
    }

    private void emptyThen() {
        e.promise(8, "THE TAPE, which is empty then, is a ROOF: how many COATS.");
        ThatchCoats x = new ThatchCoats();
        e.due("roof() of nothing typed", x.roof(), -20);
        e.due("roof of ten", Check.roof(x, COATS_TEN), 10);
        e.due("roof() again: the tape is empty", x.roof(), -20);
        e.due("count(0)", x.count(0), 10);
        e.due("type", x.type('9'), 1);
        e.due("roof of \"9\"", x.roof(), 0);
        e.due("roof of a fault", Check.roof(x, "9;r5,"), -25);
        e.due("type: the tape is empty behind a fault, too", x.type('7'), 1);
        e.due("roof of \"7\"", x.roof(), 0);
        e.due("count(1)", x.count(1), 14);
    }

    private void allElseStays() {
        e.promise(8, "A FAULT (all else stays).");
        fault("x", 0);
        fault("12+34;t9~8,s7~6,x", 16);
        fault("12+34+", 6);
        fault("12+34;t9~8,s21", 12);
        ThatchCoats x = lived();
        String before = Seen.house(x);
        Check.roof(x, "12+34;t9~8,s7~6,");
        e.same("the house", Seen.house(x), before);
        e.due("undo()", x.undo(), 2);
        e.due("count(3)", x.count(3), 2);
    }
}
