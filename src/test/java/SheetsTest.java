/** Promises 30 to 35: sheets, and stains told by them. */
public final class SheetsTest {
    private static final Check check = new Check("SheetsTest");
    private static final int BAD = ThatchCoats.BAD, NULL = ThatchCoats.NULL, CAST = ThatchCoats.CAST,
        INDEX = ThatchCoats.INDEX, SIZE = ThatchCoats.SIZE;

    public static void main(String[] args) {
        stains();
        stainsRefused();
        film();
        sheet();
        drop();
        item();
        itemsAreCut();
        copy();
        copyRefused();
        check.end();
    }

    private static void stains() {
        // 9 of rain on r5: 4 leak; SEDGE would take 7, TURF 14, WHEAT and RYE 2
        ThatchCoats x = Check.told("45+9;r5");
        x.sheet(2, 2, 8);
        int[][] leakKindsThicks = {
            {4, 1, 1 << 5}, {2, 1 << 2, 1 << 7}, {0, 1 << 4, 0x1ffe00}, {7, 1 << 1 | 1 << 3, 1 << 2}, {9, 0, 0},
            {8, 0, 1 << 1}, {-1, 0, 0}};
        for (int[] row : leakKindsThicks) {
            x.item(2, 2, 3, row[0]);
            check.due(30, "KINDS by " + row[0], x.stains(0, 2, 2, 3, 1, 0), row[1]);
            check.due(30, "how THICK by " + row[0], x.stains(0, 2, 2, 3, 1, 1), row[2]);
        }
        // the second YEAR tells WHEAT from RYE: 4 thick then, 2 or 3
        x.item(2, 2, 0, 7);
        x.item(2, 2, 1, 6);
        check.due(30, "KINDS by 7 6", x.stains(0, 2, 2, 0, 2, 0), 1 << 3);
        x.item(2, 2, 1, 7);
        check.due(30, "KINDS by 7 7", x.stains(0, 2, 2, 0, 2, 0), 1 << 1);
        x.item(2, 2, 2, 8);
        check.due(30, "KINDS by 7 7 8", x.stains(0, 2, 2, 0, 3, 0), 1 << 1);
        check.due(30, "how THICK by 7 7 8 of REED", x.stains(0, 2, 2, 0, 3, 1), 0);
        // a long that has the same lowest bits is another number
        x.sheet(3, 3, 1);
        x.item(3, 3, 0, 4L + (1L << 32));
        check.due(30, "KINDS by a long", x.stains(0, 3, 3, 0, 1, 0), 0);
        check.due(30, "count(0): nothing is changed", x.count(0), 1);
        check.due(30, "of(0, 0): nothing is changed", x.of(0, 0), 0);
        check.due(30, "of(0, 1): nothing is changed", x.of(0, 1), 5);
        stainsByTrial();
    }

    /** Each kind and thickness told in a roof of its own, and its film compared. */
    private static void stainsByTrial() {
        String letters = "rwsyt";
        String[] before = {"45+12+3+25+0;r4~2,", "45+30+7;", "45+20+9+31;y7,t2,"};
        String[] behind = {",w3", "", ",r2~9,s3"};
        int[] coats = {1, 0, 2};
        for (int i = 0; i < before.length; i++) {
            for (int n = 1; n <= 8; n++) {
                ThatchCoats x = Check.told(before[i] + "s6~1" + behind[i]);
                x.sheet(0, 0, 24);
                x.film(n, 0, 0, 5);
                int kinds = 0;
                for (int kind = 0; kind < 5; kind++) {
                    kinds |= likeFilm(x, before[i] + letters.charAt(kind) + "6~1" + behind[i], n) << kind;
                }
                int thicks = 0;
                for (int thick = 1; thick <= 20; thick++) {
                    thicks |= likeFilm(x, before[i] + "s" + thick + "~1" + behind[i], n) << thick;
                }
                check.due(30, "KINDS " + i + " " + n, x.stains(coats[i], 0, 0, 5, n, 0), kinds);
                check.due(30, "how THICK " + i + " " + n, x.stains(coats[i], 0, 0, 5, n, 1), thicks);
            }
        }
    }

    private static int likeFilm(ThatchCoats x, String text, int n) {
        ThatchCoats y = Check.told(text);
        for (int i = 1; i <= n; i++) {
            if (x.ahead(i, 1) != y.ahead(i, 1)) {
                return 0;
            }
        }
        return 1;
    }

    private static void stainsRefused() {
        ThatchCoats x = Check.told("45+9;r5");
        x.sheet(0, 1, 8);
        check.due(30, "no such coat", x.stains(1, 0, 1, 0, 1, 0), BAD);
        check.due(30, "no such coat", x.stains(-1, 0, 1, 0, 1, 0), BAD);
        check.due(30, "no such sheet", x.stains(0, 4, 1, 0, 1, 0), BAD);
        check.due(30, "no such sheet", x.stains(0, -1, 1, 0, 1, 0), BAD);
        check.due(30, "no such lane", x.stains(0, 0, 4, 0, 1, 0), BAD);
        check.due(30, "no such lane", x.stains(0, 0, -1, 0, 1, 0), BAD);
        check.due(30, "n 0", x.stains(0, 0, 1, 0, 0, 0), BAD);
        check.due(30, "n 9", x.stains(0, 0, 1, 0, 9, 0), BAD);
        check.due(30, "what 2", x.stains(0, 0, 1, 0, 1, 2), BAD);
        check.due(30, "what -1", x.stains(0, 0, 1, 0, 1, -1), BAD);
        check.due(30, "BAD ahead of NULL", x.stains(0, 1, 1, 99, 9, 0), BAD);
        check.due(30, "NULL ahead of INDEX", x.stains(0, 1, 1, 99, 1, 0), NULL);
        check.due(30, "CAST ahead of INDEX", x.stains(0, 0, 0, 99, 1, 0), CAST);
        check.due(30, "INDEX", x.stains(0, 0, 1, -1, 1, 0), INDEX);
        check.due(30, "INDEX", x.stains(0, 0, 1, 8, 1, 0), INDEX);
        check.due(30, "INDEX", x.stains(0, 0, 1, 1, 8, 0), INDEX);
        check.due(30, "INDEX", x.stains(0, 0, 1, Integer.MAX_VALUE, 8, 0), INDEX);
        check.due(30, "INDEX", x.stains(0, 0, 1, Integer.MIN_VALUE, 8, 0), INDEX);
        check.due(30, "all eight: nothing leaks", x.stains(0, 0, 1, 0, 8, 1), 0x1f0000);
    }

    private static void film() {
        ThatchCoats x = Check.told("45+9+20;r5,w1");
        // 9: r takes 5, 4; 20: 15; 9: 4 thick, 5; 20: 17; 9: 7
        int[] leaks = {4, 15, 5, 17, 7};
        for (int lane = 0; lane < 4; lane++) {
            x.sheet(lane, lane, 6);
            x.item(lane, lane, 0, 13);
            check.due(31, "film(5, " + lane + ")", x.film(5, lane, lane, 1), 5);
            for (int i = 0; i < leaks.length; i++) {
                check.due(31, "item " + (i + 1), itemTold(x, lane, lane, i + 1), leaks[i]);
            }
            check.due(31, "item 0 is as it was", itemTold(x, lane, lane, 0), 13);
        }
        check.due(31, "n 0", x.film(0, 0, 0, 0), BAD);
        check.due(31, "n 25", x.film(25, 0, 0, 0), BAD);
        check.due(31, "no such sheet", x.film(1, 4, 0, 0), BAD);
        check.due(31, "no such sheet", x.film(1, -1, 0, 0), BAD);
        check.due(31, "no such lane", x.film(1, 0, 4, 0), BAD);
        check.due(31, "no such lane", x.film(1, 0, -1, 0), BAD);
        check.due(31, "CAST", x.film(1, 0, 1, 99), CAST);
        check.due(31, "INDEX", x.film(1, 0, 0, -1), INDEX);
        check.due(31, "INDEX", x.film(2, 0, 0, 5), INDEX);
        check.due(31, "refused, item 5 is as it was", itemTold(x, 0, 0, 5), 7);
        check.due(31, "INDEX", x.film(24, 0, 0, Integer.MAX_VALUE), INDEX);
        x.drop(0);
        check.due(31, "NULL", x.film(1, 0, 0, 99), NULL);
        check.due(31, "count(3): nothing is changed", x.count(3), 0);
        x.sheet(0, 0, 24);
        check.due(31, "film(24)", x.film(24, 0, 0, 0), 24);
    }

    /** An item's number; the house is as it was then. */
    private static int itemTold(ThatchCoats x, int sheet, int lane, int i) {
        x.image();
        Seen.readyToRead(x);
        int item = Seen.item(x, sheet, lane, i);
        x.restore();
        return item;
    }

    private static void sheet() {
        ThatchCoats x = Check.told("45+9;r9");
        check.due(32, "sheet(-1, 0, 1)", x.sheet(-1, 0, 1), BAD);
        check.due(32, "sheet(4, 0, 1)", x.sheet(4, 0, 1), BAD);
        check.due(32, "sheet(0, -1, 1)", x.sheet(0, -1, 1), BAD);
        check.due(32, "sheet(0, 4, 1)", x.sheet(0, 4, 1), BAD);
        check.due(32, "sheet(0, 0, 25)", x.sheet(0, 0, 25), BAD);
        check.due(32, "sheet(0, 0, -1)", x.sheet(0, 0, -1), SIZE);
        check.due(32, "sheet(0, 0, MIN)", x.sheet(0, 0, Integer.MIN_VALUE), SIZE);
        check.due(32, "sheet(4, 0, -1): BAD ahead of SIZE", x.sheet(4, 0, -1), BAD);
        check.due(32, "drop(0): refused, nothing is there", x.drop(0), NULL);
        check.due(32, "sheet(0, 0, 24)", x.sheet(0, 0, 24), 24);
        x.item(0, 0, 0, 5);
        x.item(0, 0, 23, 5);
        check.due(32, "KINDS by 5", x.stains(0, 0, 0, 23, 1, 0), 1 << 1 | 1 << 3);
        check.due(32, "sheet(0, 0, 24)", x.sheet(0, 0, 24), 24);
        check.due(32, "KINDS by a new row's 0", x.stains(0, 0, 0, 0, 1, 0), 1 | 1 << 2 | 1 << 4);
        check.due(32, "KINDS by a new row's 0", x.stains(0, 0, 0, 23, 1, 0), 1 | 1 << 2 | 1 << 4);
        check.due(32, "sheet(0, 3, 2)", x.sheet(0, 3, 2), 2);
        check.due(32, "item of the old lane", x.item(0, 0, 0, 1), CAST);
        check.due(32, "item behind the new end", x.item(0, 3, 2, 1), INDEX);
        check.due(32, "sheet(0, 3, -1)", x.sheet(0, 3, -1), SIZE);
        check.due(32, "drop(0): refused, the old is there", x.drop(0), 2);
        check.due(32, "sheet(0, 1, 0)", x.sheet(0, 1, 0), 0);
        check.due(32, "item of an empty row", x.item(0, 1, 0, 1), INDEX);
    }

    private static void drop() {
        ThatchCoats x = new ThatchCoats();
        check.due(33, "drop(-1)", x.drop(-1), BAD);
        check.due(33, "drop(4)", x.drop(4), BAD);
        for (int i = 0; i < 4; i++) {
            check.due(33, "drop", x.drop(i), NULL);
            x.sheet(i, i, 6 * i);
        }
        for (int i = 0; i < 4; i++) {
            check.due(33, "drop", x.drop(i), 6 * i);
            check.due(33, "drop again", x.drop(i), NULL);
            check.due(33, "item of nothing", x.item(i, i, 0, 1), NULL);
        }
    }

    private static void item() {
        ThatchCoats x = new ThatchCoats();
        x.sheet(1, 2, 3);
        check.due(34, "item(-1, ..)", x.item(-1, 2, 0, 1), BAD);
        check.due(34, "item(4, ..)", x.item(4, 2, 0, 1), BAD);
        check.due(34, "item(1, -1, ..)", x.item(1, -1, 0, 1), BAD);
        check.due(34, "item(1, 4, ..)", x.item(1, 4, 0, 1), BAD);
        check.due(34, "item(0, 4, ..): BAD ahead of NULL", x.item(0, 4, 0, 1), BAD);
        check.due(34, "item(0, 2, 9): NULL ahead of INDEX", x.item(0, 2, 9, 1), NULL);
        check.due(34, "item(1, 3, 9): CAST ahead of INDEX", x.item(1, 3, 9, 1), CAST);
        check.due(34, "item(1, 2, 3)", x.item(1, 2, 3, 1), INDEX);
        check.due(34, "item(1, 2, -1)", x.item(1, 2, -1, 1), INDEX);
        check.due(34, "item(1, 2, MAX)", x.item(1, 2, Integer.MAX_VALUE, 1), INDEX);
        check.due(34, "item(1, 2, 0)", x.item(1, 2, 0, Long.MIN_VALUE), 1);
        check.due(34, "item(1, 2, 2)", x.item(1, 2, 2, Long.MAX_VALUE), 1);
    }

    private static void itemsAreCut() {
        ThatchCoats x = Check.told("45+9;r5");
        int[] bits = {8, 16, 32};
        for (int lane = 0; lane < 4; lane++) {
            x.sheet(lane, lane, 1);
            for (int bit : bits) {
                x.item(lane, lane, 0, 4L + (1L << bit));
                boolean cut = lane < 3 && bits[lane] <= bit;
                check.due(34, "lane " + lane + ", 4 and 2^" + bit, x.stains(0, lane, lane, 0, 1, 0), cut ? 1 : 0);
            }
            x.item(lane, lane, 0, 4);
            check.due(34, "lane " + lane + ", 4", x.stains(0, lane, lane, 0, 1, 0), 1);
        }
    }

    private static void copy() {
        ThatchCoats x = new ThatchCoats();
        x.sheet(0, 1, 24);
        x.sheet(2, 1, 10);
        for (int i = 0; i < 24; i++) {
            x.item(0, 1, i, i);
        }
        check.due(35, "copy(0, 5, 2, 1, 8)", x.copy(0, 5, 2, 1, 8), 8);
        row(x, 2, new int[] {0, 5, 6, 7, 8, 9, 10, 11, 12, 0});
        check.due(35, "upward over itself", x.copy(2, 1, 2, 3, 7), 7);
        row(x, 2, new int[] {0, 5, 6, 5, 6, 7, 8, 9, 10, 11});
        check.due(35, "downward over itself", x.copy(2, 2, 2, 0, 8), 8);
        row(x, 2, new int[] {6, 5, 6, 7, 8, 9, 10, 11, 10, 11});
        check.due(35, "all of it", x.copy(2, 0, 0, 14, 10), 10);
        check.due(35, "nothing", x.copy(2, 10, 0, 24, 0), 0);
        row(x, 0, new int[] {0, 1, 2, 3, 4, 5, 6, 7, 8, 9, 10, 11, 12, 13, 6, 5, 6, 7, 8, 9, 10, 11, 10, 11});
    }

    private static void row(ThatchCoats x, int sheet, int[] want) {
        Seen.readyToRead(x);
        for (int i = 0; i < want.length; i++) {
            check.due(35, "item " + i, Seen.item(x, sheet, 1, i), want[i]);
        }
    }

    private static void copyRefused() {
        ThatchCoats x = new ThatchCoats();
        x.sheet(0, 1, 4);
        x.sheet(1, 1, 6);
        x.sheet(2, 2, 6);
        check.due(35, "from -1", x.copy(-1, 0, 0, 0, 1), BAD);
        check.due(35, "from 4", x.copy(4, 0, 0, 0, 1), BAD);
        check.due(35, "to -1", x.copy(0, 0, -1, 0, 1), BAD);
        check.due(35, "to 4: BAD ahead of NULL", x.copy(3, 0, 4, 0, 1), BAD);
        check.due(35, "from nothing", x.copy(3, 0, 0, 0, 1), NULL);
        check.due(35, "to nothing", x.copy(0, 0, 3, 0, 1), NULL);
        check.due(35, "NULL ahead of INDEX", x.copy(0, 99, 3, 0, 1), NULL);
        check.due(35, "CAST ahead of INDEX", x.copy(0, 99, 2, 0, 1), CAST);
        check.due(35, "CAST of no items", x.copy(0, 0, 2, 0, 0), CAST);
        int[][] wrong = {{-1, 0, 1}, {0, -1, 1}, {0, 0, -1}, {4, 0, 1}, {0, 6, 1}, {0, 0, 5}, {1, 0, 4}, {0, 3, 4},
            {5, 0, 0}, {0, 7, 0}, {-1, 0, 0}, {Integer.MAX_VALUE, 0, 1}, {0, Integer.MAX_VALUE, 1},
            {0, 0, Integer.MAX_VALUE}, {0, 0, Integer.MIN_VALUE}, {Integer.MAX_VALUE, 0, Integer.MAX_VALUE},
            {Integer.MIN_VALUE, Integer.MIN_VALUE, Integer.MIN_VALUE}, {2, 2, Integer.MIN_VALUE}};
        for (int[] w : wrong) {
            check.due(35, "copy of " + w[0] + ", " + w[1] + ", " + w[2], x.copy(0, w[0], 1, w[1], w[2]), INDEX);
        }
        check.due(35, "copy(0, 0, 1, 2, 4)", x.copy(0, 0, 1, 2, 4), 4);
    }
}
