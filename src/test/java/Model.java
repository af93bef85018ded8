import java.util.ArrayDeque;
import java.util.ArrayList;
import java.util.Arrays;
import java.util.List;
import java.util.function.ToIntFunction;

/**
 * A second writing of the document, by other means than the class: coats as objects that are never
 * changed, states copied whole, searches that try all there is, a roof read by a table of states.
 */
final class Model {
    record Coat(int kind, int thick, int damp, int laid) {
        int weight() {
            return thick + damp;
        }

        int takes(int year) {
            int reed = thick;
            int wheat = reed / 2;
            int sedge = reed + (damp == 0 ? 2 : 0);
            int rye = wheat + (year % 2 == 1 ? 1 : 0);
            return new int[] {reed, wheat, sedge, rye, 2 * sedge}[kind];
        }

        Coat thickBy(int t) {
            return new Coat(kind, t, damp, laid);
        }

        Coat ofKind(int k) {
            return new Coat(k, thick, damp, laid);
        }
    }

    /** All that an undo brings back; coats from below up. */
    record State(List<Coat> coats, int year, int leaked, long draw) {
        State withCoats(List<Coat> c) {
            return new State(List.copyOf(c), year, leaked, draw);
        }

        int heavy() {
            return coats.stream().mapToInt(Coat::weight).sum();
        }

        State next(int water) {
            List<Coat> then = new ArrayList<>(coats);
            int[] took = new int[then.size()];
            int rest = water;
            for (int c = took.length - 1; c >= 0; c--) {
                took[c] = Math.min(rest, coats.get(c).takes(year));
                rest -= took[c];
            }
            for (int c = 0; c < took.length; c++) {
                Coat k = coats.get(c);
                int damp = took[c] == 0 ? k.damp - 2 : k.damp + took[c] / 2;
                then.set(c, new Coat(k.kind, k.thick, Math.max(0, Math.min(9, damp)), k.laid));
            }
            if (!then.isEmpty()) {
                Coat top = then.remove(then.size() - 1);
                if (top.thick > 1) {
                    then.add(top.thickBy(top.thick - 1));
                }
            }
            return new State(List.copyOf(then), year + 1, leaked + rest, draw);
        }

        State burnt(int heat) {
            List<Coat> then = new ArrayList<>(coats);
            int rest = heat;
            while (!then.isEmpty()) {
                Coat top = then.get(then.size() - 1);
                if (top.damp > 6 || top.weight() > rest) {
                    break;
                }
                rest -= top.weight();
                then.remove(then.size() - 1);
            }
            return withCoats(then);
        }
    }

    record Kept(State state, int walls, List<Integer> rains, List<State> past) { }

    private State state = new State(List.of(), 0, 0, 1);
    private int walls = 80;
    private List<Integer> rains = new ArrayList<>();
    private ArrayDeque<State> past = new ArrayDeque<>();
    private Kept kept = null;
    private final StringBuilder tape = new StringBuilder();
    private final Object[] sheets = new Object[4];

    private int rainIn(int year) {
        return rains.isEmpty() ? 0 : rains.get(year % rains.size());
    }

    private State after(State s, int n) {
        for (int i = 0; i < n; i++) {
            s = s.next(rainIn(s.year));
        }
        return s;
    }

    private int leaksIn(State s, int n) {
        return after(s, n).leaked - s.leaked;
    }

    private void done(State then) {
        past.addLast(state);
        if (past.size() > 8) {
            past.removeFirst();
        }
        state = then;
    }

    private static boolean in(int v, int low, int high) {
        return low <= v && v <= high;
    }

    int walls(int v) {
        if (!in(v, 1, 200)) return -1;
        int was = walls;
        walls = v;
        return was;
    }

    int rain(int v) {
        if (!in(v, 0, 40)) return -1;
        if (rains.size() == 8) return -3;
        rains.add(v);
        return rains.size();
    }

    int dry() {
        int was = rains.size();
        rains = new ArrayList<>();
        return was;
    }

    int of(int coat, int what) {
        if (!in(coat, 0, state.coats.size() - 1) || !in(what, 0, 5)) return -1;
        Coat c = state.coats.get(coat);
        int above = state.coats.stream().skip(coat + 1).mapToInt(k -> k.takes(state.year)).sum();
        return new int[] {c.kind, c.thick, c.damp, c.laid, c.takes(state.year), above}[what];
    }

    int rains(int n) {
        return in(n, 0, 40) ? rainIn(state.year + n) : -1;
    }

    int type(int letter) {
        if (!in(letter, 32, 126)) return -1;
        if (tape.length() == 90) return -3;
        tape.append((char) letter);
        return tape.length();
    }

    int roof() {
        String text = tape.toString();
        tape.setLength(0);
        RoofText r = new RoofText(text);
        if (r.fault >= 0) return -20 - r.fault;
        walls = 2 * r.half;
        rains = new ArrayList<>(r.rains);
        state = new State(List.copyOf(r.coats), 0, 0, state.draw);
        past.clear();
        return state.coats.size();
    }

    int count(int what) {
        if (!in(what, 0, 8)) return -1;
        return new int[] {state.coats.size(), walls, rains.size(), state.year, state.leaked, state.heavy(),
            state.coats.stream().mapToInt(Coat::thick).sum(), state.heavy() <= walls ? 1 : 0, past.size()}[what];
    }

    int years(int n) {
        if (!in(n, 1, 40)) return -1;
        if (state.year + n > 9999) return -3;
        int was = state.leaked;
        for (int i = 0; i < n; i++) {
            done(after(state, 1));
        }
        return state.leaked - was;
    }

    int lay(int kind, int thick) {
        if (!in(kind, 0, 4) || !in(thick, 1, 20)) return -1;
        if (state.coats.size() == 10) return -3;
        State then = laid(kind, thick);
        if (then.heavy() > walls) return -2;
        done(then);
        return state.coats.size() - 1;
    }

    private State laid(int kind, int thick) {
        List<Coat> c = new ArrayList<>(state.coats);
        c.add(new Coat(kind, thick, 0, state.year));
        return state.withCoats(c);
    }

    int strip(int n) {
        if (!in(n, 1, 10)) return -1;
        if (n > state.coats.size()) return -2;
        done(state.withCoats(state.coats.subList(0, state.coats.size() - n)));
        return state.coats.size();
    }

    private static State replaced(State s, int coat, Coat by) {
        List<Coat> c = new ArrayList<>(s.coats);
        c.set(coat, by);
        return s.withCoats(c);
    }

    int pull(int coat, int n) {
        if (!in(coat, 0, state.coats.size() - 1) || !in(n, 1, 20)) return -1;
        Coat c = state.coats.get(coat);
        if (c.thick == 1) return -2;
        done(replaced(state, coat, c.thickBy(Math.max(1, c.thick - n))));
        return state.coats.get(coat).thick;
    }

    int fire(int heat) {
        if (!in(heat, 0, 999)) return -1;
        int was = state.coats.size();
        done(state.burnt(heat));
        return was - state.coats.size();
    }

    int drift(int n) {
        if (!in(n, 1, 40)) return -1;
        if (state.year + n > 9999) return -3;
        int was = state.leaked;
        for (int i = 0; i < n; i++) {
            long draw = (state.draw * 1103515245L + 12345L) % (1L << 31);
            State s = new State(state.coats, state.year, state.leaked, draw);
            if (draw / 65536 % 3 == 0 && !s.coats.isEmpty()) {
                int coat = (int) (draw / 128 % s.coats.size());
                Coat c = s.coats.get(coat);
                s = replaced(s, coat, c.thickBy(Math.max(1, c.thick - 1)));
            }
            done(after(s, 1));
        }
        return state.leaked - was;
    }

    int undo() {
        if (past.isEmpty()) return -4;
        state = past.removeLast();
        return past.size();
    }

    int seed(int v) {
        if (v < 0) return -1;
        int was = (int) state.draw;
        state = new State(state.coats, state.year, state.leaked, v);
        return was;
    }

    int ahead(int n, int what) {
        if (!in(n, 0, 40) || !in(what, 0, 2)) return -1;
        State s = after(state, n);
        return new int[] {s.coats.size(), s.leaked, s.heavy()}[what];
    }

    private int leaksOn(int n) {
        return after(state, n + 1).leaked - after(state, n).leaked;
    }

    int leak() {
        for (int n = 1; n <= 40; n++) {
            if (leaksOn(n - 1) > 0) return n;
        }
        return -4;
    }

    int bare() {
        for (int n = 0; n <= 40; n++) {
            if (after(state, n).coats.isEmpty()) return n;
        }
        return -4;
    }

    int reach(int v) {
        if (!in(v, -1, 99)) return -1;
        int water = v == -1 ? rainIn(state.year) : v;
        int reached = 0;
        for (int c = 0; c < state.coats.size(); c++) {
            if (water > of(c, 5)) reached++;
        }
        return reached;
    }

    int cover(int kind, int n) {
        if (!in(kind, 0, 4) || !in(n, 1, 20)) return -1;
        if (state.coats.size() == 10) return -3;
        for (int t = 1; t <= 20; t++) {
            if (leaksIn(laid(kind, t), n) == 0) return t;
        }
        return -4;
    }

    int relief(int n, int what) {
        if (!in(n, 1, 20) || !in(what, 0, 1)) return -1;
        int[] best = null;
        for (int coat = state.coats.size() - 1; coat >= 0; coat--) {
            List<Coat> c = new ArrayList<>(state.coats);
            c.remove(coat);
            State s = state.withCoats(c);
            if (s.heavy() <= walls && (best == null || leaksIn(s, n) <= best[1])) {
                best = new int[] {coat, leaksIn(s, n)};
            }
        }
        return best == null ? -4 : best[what];
    }

    int share(int s, int n, int k) {
        if (!in(s, 0, 6) || !in(n, 1, 20) || k < -2) return -1;
        if (k >= state.coats.size() || state.coats.isEmpty()) return -4;
        List<int[]> all = new ArrayList<>();
        part(new int[state.coats.size()], 0, s, n, all);
        int[] best = all.get(0);
        for (int[] one : all) {
            if (Arrays.compare(one, best) < 0) best = one;
        }
        return k == -1 ? best[0] : k == -2 ? best[1] : best[2 + k];
    }

    /** Each way as leaks, heavy, straws: the least of these rows is the one asked for. */
    private void part(int[] straws, int coat, int left, int n, List<int[]> all) {
        if (coat == straws.length) {
            if (left == 0) {
                all.add(judged(straws, n));
            }
            return;
        }
        for (int some = left; some >= 0; some--) {
            straws[coat] = some;
            part(straws, coat + 1, left - some, n, all);
        }
    }

    private int[] judged(int[] straws, int n) {
        List<Coat> c = new ArrayList<>();
        for (int i = 0; i < straws.length; i++) {
            Coat old = state.coats.get(i);
            c.add(old.thickBy(Math.min(20, old.thick + straws[i])));
        }
        State then = after(state.withCoats(c), n);
        int[] row = new int[2 + straws.length];
        row[0] = then.leaked - state.leaked;
        row[1] = then.heavy();
        System.arraycopy(straws, 0, row, 2, straws.length);
        return row;
    }

    int worst(int what) {
        if (!in(what, 0, 1)) return -1;
        int year = 0;
        for (int n = 1; n <= 39; n++) {
            if (leaksOn(n) > leaksOn(year)) year = n;
        }
        return leaksOn(year) == 0 ? -4 : what == 0 ? year : leaksOn(year);
    }

    int hot(int k) {
        if (!in(k, 1, state.coats.size())) return -1;
        for (int heat = 0; heat <= 999; heat++) {
            if (state.coats.size() - state.burnt(heat).coats.size() >= k) return heat;
        }
        return -4;
    }

    int bursts(int n, int c, int what) {
        if (!in(n, 0, 6) || !in(c, 0, 10) || !in(what, 0, 1)) return -1;
        int above = dry(state, n, c);
        int below = (int) Math.pow(10, n);
        for (int d = below; d > 1; d--) {
            if (above % d == 0 && below % d == 0) {
                above /= d;
                below /= d;
                break;
            }
        }
        return what == 0 ? above : below;
    }

    private int dry(State s, int n, int c) {
        if (n == 0) return 1;
        State once = s.next(rainIn(s.year));
        State twice = s.next(2 * rainIn(s.year));
        return (once.leaked == s.leaked ? (10 - c) * dry(once, n - 1, c) : 0)
            + (twice.leaked == s.leaked ? c * dry(twice, n - 1, c) : 0);
    }

    int image() {
        kept = new Kept(state, walls, List.copyOf(rains), List.copyOf(past));
        return 1;
    }

    int restore() {
        if (kept == null) return -4;
        state = kept.state;
        walls = kept.walls;
        rains = new ArrayList<>(kept.rains);
        past = new ArrayDeque<>(kept.past);
        return 1;
    }

    int stains(int coat, int sheet, int lane, int i, int n, int what) {
        if (!in(coat, 0, state.coats.size() - 1) || !in(n, 1, 8) || !in(what, 0, 1)) return -1;
        if (!in(sheet, 0, 3) || !in(lane, 0, 3)) return -1;
        int set = 0;
        Coat old = state.coats.get(coat);
        for (int v = what; v <= (what == 0 ? 4 : 20); v++) {
            State s = replaced(state, coat, what == 0 ? old.ofKind(v) : old.thickBy(v));
            boolean like = true;
            for (int y = 0; y < n; y++) {
                State then = after(s, 1);
                int at = i + y;
                int leaks = then.leaked - s.leaked;
                int answer = byMachine(() -> taken(sheets[sheet], lane, at) == leaks ? 1 : 0);
                if (answer < 0) return answer;
                like &= answer == 1;
                s = then;
            }
            set |= like ? 1 << v : 0;
        }
        return set;
    }

    int film(int n, int sheet, int lane, int i) {
        if (!in(n, 1, 24) || !in(sheet, 0, 3) || !in(lane, 0, 3)) return -1;
        for (int y = 0; y < n; y++) {
            int at = i + y;
            int answer = byMachine(() -> (int) (0 * taken(sheets[sheet], lane, at)));
            if (answer < 0) return answer;
        }
        for (int y = 0; y < n; y++) {
            put(sheets[sheet], lane, i + y, leaksOn(y));
        }
        return n;
    }

    int sheet(int sheet, int lane, int n) {
        if (!in(sheet, 0, 3) || !in(lane, 0, 3) || n > 24) return -1;
        return byMachine(() -> {
            sheets[sheet] = lane == 0 ? new byte[n] : lane == 1 ? new short[n] : lane == 2 ? new int[n] : new long[n];
            return n;
        });
    }

    int drop(int sheet) {
        if (!in(sheet, 0, 3)) return -1;
        if (sheets[sheet] == null) return -11;
        int had = java.lang.reflect.Array.getLength(sheets[sheet]);
        sheets[sheet] = null;
        return had;
    }

    int item(int sheet, int lane, int i, long v) {
        if (!in(sheet, 0, 3) || !in(lane, 0, 3)) return -1;
        return byMachine(() -> {
            put(sheets[sheet], lane, i, v);
            return 1;
        });
    }

    int copy(int from, int i, int to, int j, int n) {
        if (!in(from, 0, 3) || !in(to, 0, 3)) return -1;
        return byMachine(() -> {
            System.arraycopy(sheets[from], i, sheets[to], j, n);
            return n;
        });
    }

    private interface Asked {
        int answer();
    }

    /** The document tells NULL, CAST, INDEX, SIZE as what the machine finds: here the machine does. */
    private static int byMachine(Asked asked) {
        try {
            return asked.answer();
        } catch (NullPointerException e) {
            return -11;
        } catch (ClassCastException | ArrayStoreException e) {
            return -12;
        } catch (IndexOutOfBoundsException e) {
            return -13;
        } catch (NegativeArraySizeException e) {
            return -14;
        }
    }

    private static final List<ToIntFunction<Object>> LENGTHS =
        List.of(o -> ((byte[]) o).length, o -> ((short[]) o).length, o -> ((int[]) o).length, o -> ((long[]) o).length);

    private static long taken(Object row, int lane, int i) {
        LENGTHS.get(lane).applyAsInt(row);
        return java.lang.reflect.Array.getLong(row, i);
    }

    private static void put(Object row, int lane, int i, long v) {
        switch (lane) {
            case 0 -> ((byte[]) row)[i] = (byte) v;
            case 1 -> ((short[]) row)[i] = (short) v;
            case 2 -> ((int[]) row)[i] = (int) v;
            default -> ((long[]) row)[i] = v;
        }
    }

    /** Letter by letter, by what has been read so far. */
    private static final class RoofText {
        int fault = -1;
        int half = 0;
        final List<Integer> rains = new ArrayList<>();
        final List<Coat> coats = new ArrayList<>();
        private String digits = "";
        private int digitsAt = 0;
        private int kind = 0;
        private int thick = 0;
        /** 'h' half, '+' rain, 'k' kind, 't' thick, '~' damp, 'd' behind damp. */
        private char wanted = 'h';
        private boolean numberEnded = false;

        RoofText(String text) {
            for (int i = 0; i < text.length() && fault < 0; i++) {
                read(text.charAt(i), i);
            }
            if (fault < 0) {
                closeNumber();
            }
            if (fault < 0 && (wanted == 'k' || wanted == '~' || wanted != 'd' && digits.isEmpty())) {
                fault = text.length();
            }
            if (fault < 0 && wanted == 't') {
                coats.add(new Coat(kind, thick, 0, 0));
            }
        }

        private void read(char c, int at) {
            if (c == ' ') {
                numberEnded |= !digits.isEmpty();
                return;
            }
            if (wanted == 'k') {
                kind = "rwsyt".indexOf(c);
                fault = kind < 0 ? at : -1;
                toNumber('t');
                return;
            }
            if (wanted == '~') {
                if (!Character.isDigit(c)) {
                    fault = at;
                    return;
                }
                coats.add(new Coat(kind, thick, c - '0', 0));
                wanted = 'd';
                return;
            }
            if (wanted != 'd' && Character.isDigit(c) && !numberEnded && digits.length() < 2) {
                digitsAt = digits.isEmpty() ? at : digitsAt;
                digits += c;
                return;
            }
            if (wanted != 'd' && digits.isEmpty()) {
                fault = at;
                return;
            }
            closeNumber();
            if (fault < 0) {
                between(c, at);
            }
        }

        private void toNumber(char next) {
            wanted = next;
            digits = "";
            numberEnded = false;
        }

        private void closeNumber() {
            if (digits.isEmpty() || wanted == 'd' || wanted == 'k' || wanted == '~') return;
            int v = Integer.parseInt(digits);
            int low = wanted == '+' ? 0 : 1;
            int high = wanted == 'h' ? 99 : wanted == '+' ? 40 : 20;
            if (!in(v, low, high)) {
                fault = digitsAt;
                return;
            }
            if (wanted == 'h') half = v;
            if (wanted == '+') rains.add(v);
            if (wanted == 't') thick = v;
        }

        private void between(char c, int at) {
            boolean first = wanted == 'h' || wanted == '+';
            if (first && c == '+' && rains.size() < 8) {
                toNumber('+');
            } else if (first && c == ';') {
                wanted = 'k';
            } else if (wanted == 't' && c == '~') {
                wanted = '~';
            } else if (!first && c == ',' && coats.size() + (wanted == 't' ? 1 : 0) < 10) {
                if (wanted == 't') {
                    coats.add(new Coat(kind, thick, 0, 0));
                }
                wanted = 'k';
            } else {
                fault = at;
            }
        }
    }
}
