import java.util.function.ToIntFunction;

/** Boundary cases of promises 30 to 35, and of what section 3 says of sheets and stains. */
final class SheetEdges {
    private static final int BAD = ThatchCoats.BAD, NULL = ThatchCoats.NULL, CAST = ThatchCoats.CAST,
        INDEX = ThatchCoats.INDEX, SIZE = ThatchCoats.SIZE;
    private static final int MIN = Integer.MIN_VALUE, MAX = Integer.MAX_VALUE;
    private static final int[] NO_SHEETS = {-1, 4, MIN, MAX}, NO_LANES = {-1, 4, MIN, MAX};

    private final Edges e;

    SheetEdges(Edges e) {
        this.e = e;
    }

    void run() {
        rows();
        sets();
        stainsTold();
        stainsOfEight();
        stains();
        film();
        filmOfLeaks();
        sheet();
        drop();
        item();
        lowestBits();
        copy();
        copyTakenAhead();
        order();
    }

    /** Sheets 0 to 2 are of lane 0 to 2 and 4, 24, 0 items; 3 is nothing. */
    private static ThatchCoats some() {
        ThatchCoats x = Check.told("9+9;r5,w1");
        x.sheet(0, 0, 4);
        x.sheet(1, 1, 24);
        x.sheet(2, 2, 0);
        x.item(0, 0, 0, 4);
        x.item(0, 0, 3, 7);
        x.item(1, 1, 23, 5);
        return x;
    }

    private void refused(String call, ToIntFunction<ThatchCoats> asked, int want) {
        e.unchanged(call, SheetEdges::some, asked, want);
    }

    private void rows() {
        e.terms("sheets 0 .. 3: nothing (at first), or a row of a LANE: 0 bytes, 1 shorts, 2 ints, 3 longs, of 0 to 24 "
            + "items.");
        ThatchCoats x = new ThatchCoats();
        for (int sheet = 0; sheet <= 3; sheet++) {
            e.due("drop: nothing at first", x.drop(sheet), NULL);
            for (int lane = 0; lane <= 3; lane++) {
                e.due("sheet of none", x.sheet(sheet, lane, 0), 0);
                e.due("sheet of 24", x.sheet(sheet, lane, 24), 24);
                e.due("of its lane", Seen.laneOf(x, sheet), lane);
                e.due("item 23", x.item(sheet, lane, 23, 1), 1);
                e.due("item 24", x.item(sheet, lane, 24, 1), INDEX);
                e.due("sheet of 25", x.sheet(sheet, lane, 25), BAD);
            }
        }
        e.due("sheet 4", x.sheet(4, 0, 1), BAD);
        e.due("lane 4", x.sheet(0, 4, 1), BAD);
    }

    private void sets() {
        e.terms("Sets are bits.");
        ThatchCoats x = Check.told("9+9;r5");
        x.sheet(0, 0, 1);
        x.item(0, 0, 0, 7);
        e.due("WHEAT, RYE", x.stains(0, 0, 0, 0, 1, 0), 1 << 1 | 1 << 3);
        e.due("THICK by 2", x.stains(0, 0, 0, 0, 1, 1), 1 << 2);
    }

    private void stainsTold() {
        e.terms("how THICK (1 .. 20, a set of bits 1 .. 20) it might be.");
        int[][] rainLeakSet = {{20, 19, 1 << 1}, {20, 0, 1 << 20}, {20, 20, 0}, {21, 1, 1 << 20}, {21, 0, 0},
            {0, 0, 0x1ffffe}, {1, 0, 0x1ffffe}, {2, 0, 0x1ffffc}, {19, 0, 3 << 19}, {40, 20, 1 << 20}, {40, 39, 1 << 1},
            {40, 40, 0}, {9, -1, 0}};
        for (int[] r : rainLeakSet) {
            ThatchCoats x = Check.told("9+" + r[0] + ";r7");
            x.sheet(0, 0, 1);
            x.item(0, 0, 0, r[1]);
            e.due("REED by " + r[0] + " that leaks " + r[1], x.stains(0, 0, 0, 0, 1, 1), r[2]);
        }
    }

    private void stainsOfEight() {
        e.terms("STAINS: a row tells how much LEAKS in each of the next n YEARS (1 .. 8): KINDS (a set) of a COAT by "
            + "which it would be so;");
        // REED, THICK by 8 .. 1 in eight YEARS, by 8: 0 1 2 .. 7 leak
        ThatchCoats x = Check.told("9+8;r8");
        x.sheet(3, 3, 8);
        for (int i = 0; i < 8; i++) {
            x.item(3, 3, i, i);
        }
        // SEDGE takes 2 more in the first YEAR alone, where they change nothing
        e.due("KINDS by eight", x.stains(0, 3, 3, 0, 8, 0), 1 | 1 << 2);
        e.due("how THICK by eight", x.stains(0, 3, 3, 0, 8, 1), 1 << 8);
        e.due("KINDS by the first: all that take 8", x.stains(0, 3, 3, 0, 1, 0), 1 | 1 << 2 | 1 << 4);
        e.due("how THICK by the first", x.stains(0, 3, 3, 0, 1, 1), 0x1fff00);
        x.item(3, 3, 7, 8);
        e.due("KINDS by eight, the last another", x.stains(0, 3, 3, 0, 8, 0), 0);
        e.due("KINDS by seven", x.stains(0, 3, 3, 0, 7, 0), 1 | 1 << 2);
        e.due("how THICK by eight, the last another", x.stains(0, 3, 3, 0, 8, 1), 0);
        x = Check.told("9;r1,w2,s3");
        x.sheet(0, 0, 8);
        for (int coat = 0; coat < 3; coat++) {
            e.due("nothing ever leaks: any KIND", x.stains(coat, 0, 0, 0, 8, 0), 0x1f);
            e.due("nothing ever leaks: however THICK", x.stains(coat, 0, 0, 0, 8, 1), 0x1ffffe);
        }
        x = Check.told("9+9;r5~9,r1");
        x.sheet(0, 0, 2);
        x.item(0, 0, 0, 3);
        e.due("the others, and how DAMP it is, stay: REED, SEDGE", x.stains(0, 0, 0, 0, 1, 0), 1 | 1 << 2);
    }

    private void stains() {
        e.promise(30, "STAINS of a COAT by n items of a SHEET taken as a row of a LANE, from item i on: KINDS (what "
            + "0), how THICK (1). BAD; NULL; CAST; INDEX.");
        for (int coat : new int[] {-1, 2, MIN, MAX}) {
            refused("coat " + coat, y -> y.stains(coat, 0, 0, 0, 1, 0), BAD);
        }
        for (int sheet : NO_SHEETS) {
            refused("sheet " + sheet, y -> y.stains(0, sheet, 0, 0, 1, 0), BAD);
        }
        for (int lane : NO_LANES) {
            refused("lane " + lane, y -> y.stains(0, 0, lane, 0, 1, 0), BAD);
        }
        for (int n : new int[] {0, -1, 9, MIN, MAX}) {
            refused("n " + n, y -> y.stains(0, 1, 1, 0, n, 0), BAD);
        }
        for (int what : new int[] {-1, 2, MIN, MAX}) {
            refused("what " + what, y -> y.stains(0, 0, 0, 0, 1, what), BAD);
        }
        e.due("no coat at all", new ThatchCoats().stains(0, 0, 0, 0, 1, 0), BAD);
        refused("nothing", y -> y.stains(0, 3, 0, 0, 1, 0), NULL);
        refused("another lane", y -> y.stains(0, 0, 1, 0, 1, 0), CAST);
        int[][] iAndN = {{-1, 1}, {4, 1}, {0, 5}, {1, 4}, {3, 2}, {-1, 8}, {MAX, 1}, {MAX, 8}, {MIN, 1}, {MIN, 8}};
        for (int[] w : iAndN) {
            refused("item " + w[0] + ", n " + w[1], y -> y.stains(0, 0, 0, w[0], w[1], 0), INDEX);
        }
        refused("a row of none", y -> y.stains(0, 2, 2, 0, 1, 0), INDEX);
        refused("the first: by 9 r5 leaks 4", y -> y.stains(0, 0, 0, 0, 1, 0), 1);
        refused("the last: by 9 w5, y5 leak 7", y -> y.stains(0, 0, 0, 3, 1, 0), 1 << 1 | 1 << 3);
        refused("the last: by 9 r2 leaks 7", y -> y.stains(0, 0, 0, 3, 1, 1), 1 << 2);
        refused("the last of 24: by 9 r4 leaks 5", y -> y.stains(0, 1, 1, 23, 1, 1), 1 << 4);
        refused("the last 8 of 24", y -> y.stains(0, 1, 1, 16, 8, 1), 0);
        refused("9 from there on are too many", y -> y.stains(0, 1, 1, 17, 8, 1), INDEX);
    }

    private void film() {
        e.promise(31, "How much LEAKS in each of the next n YEARS (1 .. 24), an item each, comes to a SHEET likewise: "
            + "n. BAD; NULL; CAST; INDEX.");
        for (int n : new int[] {0, -1, 25, MIN, MAX}) {
            refused("n " + n, y -> y.film(n, 1, 1, 0), BAD);
        }
        for (int sheet : NO_SHEETS) {
            refused("sheet " + sheet, y -> y.film(1, sheet, 0, 0), BAD);
        }
        for (int lane : NO_LANES) {
            refused("lane " + lane, y -> y.film(1, 0, lane, 0), BAD);
        }
        refused("nothing", y -> y.film(1, 3, 0, 0), NULL);
        refused("another lane", y -> y.film(1, 0, 1, 0), CAST);
        int[][] iAndN = {{-1, 1}, {4, 1}, {0, 5}, {1, 4}, {3, 2}, {0, 24}, {MAX, 1}, {MAX, 24}, {MIN, 1}, {MIN, 24}};
        for (int[] w : iAndN) {
            refused("item " + w[0] + ", n " + w[1], y -> y.film(w[1], 0, 0, w[0]), INDEX);
        }
        refused("a row of none", y -> y.film(1, 2, 2, 0), INDEX);
        refused("24 from 1 on", y -> y.film(24, 1, 1, 1), INDEX);
        e.due("film(24)", some().film(24, 1, 1, 0), 24);
        e.due("film(4) of four", some().film(4, 0, 0, 0), 4);
        e.due("film(1): the last", some().film(1, 0, 0, 3), 1);
    }

    private void filmOfLeaks() {
        e.promise(31, "an item each, comes to a SHEET likewise: n.");
        // by 10: r1 and r9 take all of it, then r9 alone, THICK by 9, by 8 .., none from the tenth YEAR on
        for (int lane = 0; lane < 4; lane++) {
            ThatchCoats x = Check.told("9+10;r9,r1");
            x.sheet(lane, lane, 24);
            x.item(lane, lane, 0, 13);
            x.item(lane, lane, 23, 13);
            e.due("film of 22", x.film(22, lane, lane, 1), 22);
            e.due("count(3): nothing is changed", x.count(3), 0);
            e.due("count(0): nothing is changed", x.count(0), 2);
            Seen.readyToRead(x);
            e.due("item 0 stays", Seen.item(x, lane, lane, 0), 13);
            for (int year = 0; year < 22; year++) {
                int leaks = Math.min(10, year);
                e.due("lane " + lane + ", YEAR " + year, Seen.item(x, lane, lane, 1 + year), leaks);
            }
            e.due("item 23 stays", Seen.item(x, lane, lane, 23), 13);
        }
        ThatchCoats x = Check.told("9+40");
        x.sheet(0, 0, 1);
        x.film(1, 0, 0, 0);
        Check.roof(x, "9+40;w1");
        e.due("40 is the most that can leak", x.stains(0, 0, 0, 0, 1, 0), 1 << 1 | 1 << 3);
    }

    private void sheet() {
        e.promise(32, "A SHEET holds a new row of a LANE: n. BAD: also n above 24; SIZE: n below 0.");
        for (int sheet : NO_SHEETS) {
            refused("sheet " + sheet, y -> y.sheet(sheet, 0, 1), BAD);
            refused("sheet " + sheet + ": BAD ahead of SIZE", y -> y.sheet(sheet, 0, -1), BAD);
        }
        for (int lane : NO_LANES) {
            refused("lane " + lane, y -> y.sheet(0, lane, 1), BAD);
            refused("lane " + lane + ": BAD ahead of SIZE", y -> y.sheet(0, lane, -1), BAD);
        }
        for (int n : new int[] {25, MAX}) {
            refused("n " + n, y -> y.sheet(0, 0, n), BAD);
            refused("n " + n + " of nothing", y -> y.sheet(3, 0, n), BAD);
        }
        for (int n : new int[] {-1, MIN}) {
            refused("n " + n, y -> y.sheet(0, 0, n), SIZE);
            refused("n " + n + " of nothing", y -> y.sheet(3, 3, n), SIZE);
        }
        ThatchCoats x = some();
        e.due("n 0", x.sheet(0, 0, 0), 0);
        e.due("drop: a row of none is not nothing", x.drop(0), 0);
        e.due("drop: nothing", x.drop(0), NULL);
        x = some();
        e.due("n 24 in place of 4", x.sheet(0, 0, 24), 24);
        Seen.readyToRead(x);
        for (int i = 0; i < 24; i++) {
            e.due("a new row's item " + i, Seen.item(x, 0, 0, i), 0);
        }
        e.due("as long as it was, of another lane", x.sheet(1, 3, 24), 24);
        e.due("item 23: new, too", Seen.item(x, 1, 3, 23), 0);
        e.due("the old lane", x.item(1, 1, 0, 0), CAST);
    }

    private void drop() {
        e.promise(33, "A SHEET holds nothing: how many items it had. BAD; NULL.");
        for (int sheet : NO_SHEETS) {
            refused("drop(" + sheet + ")", y -> y.drop(sheet), BAD);
        }
        refused("drop(3)", y -> y.drop(3), NULL);
        ThatchCoats x = some();
        e.due("drop(0)", x.drop(0), 4);
        e.due("drop(0) again", x.drop(0), NULL);
        e.due("drop(1)", x.drop(1), 24);
        e.due("drop(2): none", x.drop(2), 0);
        e.due("drop(2) again", x.drop(2), NULL);
        e.due("item of what is dropped", x.item(0, 0, 0, 1), NULL);
        e.due("sheet: it may hold a row again", x.sheet(0, 1, 2), 2);
        e.due("drop(0)", x.drop(0), 2);
    }

    private void item() {
        e.promise(34, "BAD; NULL; CAST; INDEX.");
        for (int sheet : NO_SHEETS) {
            refused("sheet " + sheet, y -> y.item(sheet, 0, 0, 1), BAD);
        }
        for (int lane : NO_LANES) {
            refused("lane " + lane, y -> y.item(0, lane, 0, 1), BAD);
            refused("lane " + lane + " of nothing", y -> y.item(3, lane, 0, 1), BAD);
        }
        refused("nothing", y -> y.item(3, 0, 0, 1), NULL);
        for (int lane = 1; lane <= 3; lane++) {
            int other = lane;
            refused("another lane", y -> y.item(0, other, 0, 1), CAST);
        }
        for (int i : new int[] {-1, 4, 23, 24, MIN, MAX}) {
            refused("item " + i + " of four", y -> y.item(0, 0, i, 1), INDEX);
        }
        refused("item 0 of none", y -> y.item(2, 2, 0, 1), INDEX);
        refused("item 24 of 24", y -> y.item(1, 1, 24, 1), INDEX);
        ThatchCoats x = some();
        e.due("item 0", x.item(1, 1, 0, 11), 1);
        e.due("item 23", x.item(1, 1, 23, 12), 1);
        Seen.readyToRead(x);
        e.due("item 0 is", Seen.item(x, 1, 1, 0), 11);
        e.due("item 1 is", Seen.item(x, 1, 1, 1), 0);
        e.due("item 23 is", Seen.item(x, 1, 1, 23), 12);
    }

    private void lowestBits() {
        e.promise(34, "becomes v, its lowest bits: 1.");
        long[][] laneTakenRead = {{0, 127, 99}, {0, 128, 99}, {0, 255, 99}, {0, 256, 0}, {0, 256 + 7, 7}, {0, -256, 0},
            {0, -249, 7}, {0, Long.MIN_VALUE, 0}, {0, Long.MAX_VALUE, 99}, {1, 256, 99}, {1, 65536, 0},
            {1, 65536 + 7, 7}, {1, -65536, 0}, {1, 32768, 99}, {1, Long.MIN_VALUE, 0}, {2, 65536, 99}, {2, 1L << 32, 0},
            {2, (1L << 32) + 7, 7}, {2, Long.MIN_VALUE, 0}, {2, Long.MAX_VALUE, 99}, {3, 1L << 32, 99},
            {3, (1L << 32) + 7, 99}, {3, Long.MIN_VALUE, 99}, {3, Long.MIN_VALUE + 7, 99}, {3, 7, 7}, {3, -1, 99},
            {3, 19, 19}, {0, 19, 19}};
        ThatchCoats x = new ThatchCoats();
        for (int lane = 0; lane < 4; lane++) {
            x.sheet(lane, lane, 1);
        }
        Seen.readyToRead(x);
        for (long[] w : laneTakenRead) {
            int lane = (int) w[0];
            e.due("lane " + lane + ", " + w[1], x.item(lane, lane, 0, w[1]), 1);
            e.due("lane " + lane + ", " + w[1] + " is", Seen.item(x, lane, lane, 0), w[2]);
        }
    }

    private void copy() {
        e.promise(35, "BAD; NULL (either); CAST: of unlike LANES; INDEX.");
        for (int sheet : NO_SHEETS) {
            refused("from " + sheet, y -> y.copy(sheet, 0, 0, 0, 1), BAD);
            refused("to " + sheet, y -> y.copy(0, 0, sheet, 0, 1), BAD);
            refused("from nothing to " + sheet, y -> y.copy(3, 0, sheet, 0, 1), BAD);
        }
        refused("from nothing", y -> y.copy(3, 0, 0, 0, 1), NULL);
        refused("to nothing", y -> y.copy(0, 0, 3, 0, 1), NULL);
        refused("from nothing to nothing", y -> y.copy(3, 0, 3, 0, 0), NULL);
        refused("of unlike lanes", y -> y.copy(0, 0, 1, 0, 1), CAST);
        refused("of unlike lanes, no items", y -> y.copy(0, 0, 2, 0, 0), CAST);
        int[][] wrong = {{-1, 0, 1}, {0, -1, 1}, {0, 0, 5}, {1, 0, 4}, {0, 1, 4}, {4, 0, 1}, {0, 4, 1}, {5, 0, 0},
            {0, 5, 0}, {-1, 0, 0}, {0, -1, 0}, {MAX, 0, 1}, {0, MAX, 1}, {MAX, MAX, MAX}, {0, 0, MAX}, {1, 1, MAX},
            {MIN, 0, 1}};
        for (int[] w : wrong) {
            refused("copy of " + w[0] + ", " + w[1] + ", " + w[2], y -> y.copy(0, w[0], 0, w[1], w[2]), INDEX);
        }
        // a choice: how many is looked at with the index, as the machine does
        for (int n : new int[] {-1, MIN}) {
            refused("n " + n, y -> y.copy(0, 0, 0, 0, n), INDEX);
            refused("n " + n, y -> y.copy(0, 4, 0, 4, n), INDEX);
        }
        refused("no items, of a row of none", y -> y.copy(2, 0, 2, 0, 0), 0);
        refused("no items, from the end to the end", y -> y.copy(0, 4, 0, 4, 0), 0);
        refused("all over itself", y -> y.copy(1, 0, 1, 0, 24), 24);
        e.due("one of none", some().copy(2, 0, 2, 0, 1), INDEX);
    }

    private void copyTakenAhead() {
        e.promise(35, "n items of a SHEET from i on come to another one (or the same) from j on, as if all were taken "
            + "ahead: n.");
        int[][] ijnThen = {{0, 1, 5, 1, 1, 2, 3, 4, 5}, {1, 0, 5, 2, 3, 4, 5, 6, 6}, {0, 2, 4, 1, 2, 1, 2, 3, 4},
            {2, 0, 4, 3, 4, 5, 6, 5, 6}, {0, 0, 6, 1, 2, 3, 4, 5, 6}, {0, 3, 3, 1, 2, 3, 1, 2, 3},
            {5, 0, 1, 6, 2, 3, 4, 5, 6}, {0, 5, 1, 1, 2, 3, 4, 5, 1}, {0, 5, 0, 1, 2, 3, 4, 5, 6}};
        for (int lane = 0; lane < 4; lane++) {
            for (int[] w : ijnThen) {
                ThatchCoats x = sixIn(0, lane);
                e.due("copy over itself", x.copy(0, w[0], 0, w[1], w[2]), w[2]);
                Seen.readyToRead(x);
                for (int i = 0; i < 6; i++) {
                    e.due("from " + w[0] + " to " + w[1] + ", " + w[2] + ": item " + i, Seen.item(x, 0, lane, i), w[3
                        + i]);
                }
            }
            ThatchCoats x = sixIn(3, lane);
            x.sheet(1, lane, 24);
            e.due("to another's end", x.copy(3, 0, 1, 18, 6), 6);
            e.due("from its end", x.copy(1, 23, 3, 0, 1), 1);
            Seen.readyToRead(x);
            e.due("item 17", Seen.item(x, 1, lane, 17), 0);
            e.due("item 18", Seen.item(x, 1, lane, 18), 1);
            e.due("item 23", Seen.item(x, 1, lane, 23), 6);
            e.due("item 0", Seen.item(x, 3, lane, 0), 6);
            e.due("item 1", Seen.item(x, 3, lane, 1), 2);
        }
    }

    private static ThatchCoats sixIn(int sheet, int lane) {
        ThatchCoats x = new ThatchCoats();
        x.sheet(sheet, lane, 6);
        for (int i = 0; i < 6; i++) {
            x.item(sheet, lane, i, i + 1);
        }
        return x;
    }

    private void order() {
        e.terms("(NULL, CAST, INDEX, SIZE in this order).");
        refused("item: NULL ahead of INDEX", y -> y.item(3, 1, 99, 0), NULL);
        refused("item: CAST ahead of INDEX", y -> y.item(0, 1, 99, 0), CAST);
        refused("film: NULL ahead of INDEX", y -> y.film(24, 3, 1, 99), NULL);
        refused("film: CAST ahead of INDEX", y -> y.film(24, 0, 1, 99), CAST);
        refused("stains: NULL ahead of INDEX", y -> y.stains(0, 3, 1, 99, 8, 1), NULL);
        refused("stains: CAST ahead of INDEX", y -> y.stains(0, 0, 1, 99, 8, 1), CAST);
        refused("copy: NULL ahead of INDEX", y -> y.copy(0, 99, 3, 0, 1), NULL);
        refused("copy: NULL ahead of INDEX", y -> y.copy(3, 99, 0, 0, -1), NULL);
        refused("copy: CAST ahead of INDEX", y -> y.copy(0, 99, 1, 0, 1), CAST);
        refused("copy: CAST ahead of INDEX", y -> y.copy(1, 0, 0, 0, -1), CAST);
        refused("stains: BAD ahead of all", y -> y.stains(0, 3, 1, 99, 8, 2), BAD);
        refused("stains: BAD ahead of all", y -> y.stains(9, 3, 1, 99, 8, 1), BAD);
        refused("film: BAD ahead of all", y -> y.film(25, 3, 1, 99), BAD);
        refused("item: BAD ahead of all", y -> y.item(3, 4, 99, 0), BAD);
        refused("copy: BAD ahead of all", y -> y.copy(3, 99, 4, 99, -1), BAD);
    }
}
