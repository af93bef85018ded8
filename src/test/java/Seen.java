/**
 * All that calls can tell of an object: the house, what may be undone, the image, the tape, the sheets.
 * To see all of it uses it up, so two objects are made alike and both are looked at.
 * It takes some 400 calls at most: what is looked at must have had less than 110 before.
 */
final class Seen {
    private static final int KNOWN = 8, SHEETS = 4, LANES = 4, ITEMS = 24;

    private Seen() {
    }

    static String all(ThatchCoats x) {
        StringBuilder s = new StringBuilder(house(x));
        stepsBack(x, s);
        s.append(" image ").append(x.restore()).append(' ').append(house(x));
        stepsBack(x, s);
        tape(x, s);
        sheets(x, s);
        return s.toString();
    }

    static String house(ThatchCoats x) {
        StringBuilder s = new StringBuilder("house");
        for (int what = 0; what <= 8; what++) {
            s.append(' ').append(x.count(what));
        }
        s.append(" rains");
        for (int n = 0; n < 8; n++) {
            s.append(' ').append(x.rains(n));
        }
        return s.append(undoable(x)).toString();
    }

    /** What an undo brings back. */
    static String undoable(ThatchCoats x) {
        StringBuilder s = new StringBuilder();
        int coats = x.count(0);
        s.append(" year ").append(x.count(3)).append(" leaked ").append(x.count(4)).append(" coats ").append(coats);
        for (int coat = 0; coat < coats; coat++) {
            s.append(" |");
            for (int what = 0; what <= 3; what++) {
                s.append(' ').append(x.of(coat, what));
            }
        }
        int draw = x.seed(0);
        x.seed(draw);
        return s.append(" draw ").append(draw).toString();
    }

    private static void stepsBack(ThatchCoats x, StringBuilder s) {
        for (int i = 0; i <= KNOWN; i++) {
            int left = x.undo();
            s.append(" undo ").append(left);
            if (left < 0) {
                return;
            }
            brief(x, s);
            s.append(' ').append(x.seed(0));
        }
    }

    private static void brief(ThatchCoats x, StringBuilder s) {
        for (int what = 3; what <= 6; what++) {
            s.append(' ').append(x.count(what));
        }
    }

    /** A blank counts for nothing in the text, but its answer tells how many letters there are. */
    private static void tape(ThatchCoats x, StringBuilder s) {
        s.append(" tape ").append(x.type(' ')).append(' ').append(x.roof());
        brief(x, s);
        s.append(' ').append(x.count(1)).append(' ').append(x.rains(0));
    }

    private static void sheets(ThatchCoats x, StringBuilder s) {
        readyToRead(x);
        for (int sheet = 0; sheet < SHEETS; sheet++) {
            int lane = laneOf(x, sheet);
            s.append(" sheet ").append(lane);
            for (int i = 0; lane >= 0 && i < ITEMS; i++) {
                int item = item(x, sheet, lane, i);
                if (item == ThatchCoats.INDEX) {
                    break;
                }
                s.append(' ').append(item);
            }
            s.append(" of ").append(x.drop(sheet));
        }
    }

    /** Which lane a sheet's row is of, or NULL: asked by an item that is not there, so that none is changed. */
    static int laneOf(ThatchCoats x, int sheet) {
        for (int lane = 0; lane < LANES; lane++) {
            int answer = x.item(sheet, lane, -1, 0);
            if (answer != ThatchCoats.CAST) {
                return answer == ThatchCoats.INDEX ? lane : answer;
            }
        }
        return ThatchCoats.CAST;
    }

    /** No call tells an item, but by 20 of rain a REED thick by t leaks 20 - t: stains tell the t. */
    static void readyToRead(ThatchCoats x) {
        Check.roof(x, "99+20;r1");
    }

    /** An item's number, if it is 0 .. 19; 99 for any other; below 0 as stains refuse it. */
    static int item(ThatchCoats x, int sheet, int lane, int i) {
        int thicks = x.stains(0, sheet, lane, i, 1, 1);
        if (thicks <= 0) {
            return thicks == 0 ? 99 : thicks;
        }
        return 20 - Integer.numberOfTrailingZeros(thicks);
    }
}
