/**
 * A thatched house: coats of straw one over the other, walls that bear so much, rains that come
 * round. The document (DOC.md) says what each call answers.
 */
public final class ThatchCoats {
    public static final int BAD = -1, NOT = -2, FULL = -3, NONE = -4, NULL = -11, CAST = -12, INDEX = -13, SIZE = -14;

    private static final int MOST_COATS = 10, MOST_THICK = 20, MOST_DAMP = 9, DAMP_THAT_STOPS = 6;
    private static final int MOST_WALLS = 200, FIRST_WALLS = 80;
    private static final int MOST_RAINS = 8, MOST_RAIN = 40, MOST_RAIN_ASKED = 99;
    private static final int LAST_YEAR = 9999, MOST_YEARS = 40, MOST_YEARS_PLANNED = 20;
    private static final int MOST_KNOWN = 8, MOST_HEAT = 999, MOST_STRAW = 6;
    private static final int MOST_BURST_YEARS = 6, BURSTS_OF = 10;
    private static final int MOST_LETTERS = 90, FIRST_FAULT = -20;
    private static final int SHEETS = 4, LANES = 4, MOST_ITEMS = 24, MOST_STAINS = 8;
    private static final int REED = 0, WHEAT = 1, SEDGE = 2, RYE = 3, TURF = 4, KINDS = 5;
    private static final int BYTES = 0, SHORTS = 1, INTS = 2;

    /** Stands for a number above all that can leak or be heavy. */
    private static final int ABOVE_ALL = 1000000000;
    /** Far above the 5005 ways in which 6 straw can be parted among 10 coats. */
    private static final int MOST_PARTINGS = 1000000;
    /** Euclid's steps for numbers up to a million stay far below this. */
    private static final int MOST_DIVISIONS = 1000;

    private final House house = new House();
    private final House kept = new House();
    private final Coats trial = new Coats();
    private final Parting parting = new Parting();
    private final Tape tape = new Tape();
    private final Sheet[] sheets = new Sheet[SHEETS];
    private boolean hasImage = false;

    public ThatchCoats() {
        for (int i = 0; i < SHEETS; i++) {
            sheets[i] = new Sheet();
        }
    }

    // ---- 1 walls, rains, coats

    public int walls(int v) {
        if (outside(v, 1, MOST_WALLS)) {
            return BAD;
        }
        int before = house.bears;
        house.bears = v;
        return before;
    }

    public int rain(int v) {
        if (outside(v, 0, MOST_RAIN)) {
            return BAD;
        }
        if (house.weather.size >= MOST_RAINS) {
            return FULL;
        }
        house.weather.append(v);
        return house.weather.size;
    }

    public int dry() {
        int before = house.weather.size;
        house.weather.size = 0;
        return before;
    }

    public int of(int coat, int what) {
        Coats coats = house.coats;
        if (!coats.has(coat)) {
            return BAD;
        }
        switch (what) {
            case 0: return coats.kind[coat];
            case 1: return coats.thick[coat];
            case 2: return coats.damp[coat];
            case 3: return coats.laid[coat];
            case 4: return coats.mostTaken(coat);
            case 5: return coats.mostTakenAbove(coat);
            default: return BAD;
        }
    }

    public int rains(int n) {
        if (outside(n, 0, MOST_YEARS)) {
            return BAD;
        }
        return house.weather.inYear(house.coats.year + n);
    }

    public int type(int letter) {
        if (outside(letter, ' ', '~')) {
            return BAD;
        }
        if (tape.size >= MOST_LETTERS) {
            return FULL;
        }
        tape.append((char) letter);
        return tape.size;
    }

    public int roof() {
        int fault = tape.readRoof();
        tape.size = 0;
        if (fault >= 0) {
            return FIRST_FAULT - fault;
        }
        house.takeOver(tape);
        return house.coats.size;
    }

    public int count(int what) {
        Coats coats = house.coats;
        switch (what) {
            case 0: return coats.size;
            case 1: return house.bears;
            case 2: return house.weather.size;
            case 3: return coats.year;
            case 4: return coats.leaked;
            case 5: return coats.heaviness();
            case 6: return coats.thickness();
            case 7: return coats.heaviness() <= house.bears ? 1 : 0;
            case 8: return house.known;
            default: return BAD;
        }
    }

    // ---- what is done

    public int years(int n) {
        int refusal = refuseYears(n);
        return refusal < 0 ? refusal : liveThrough(n, false);
    }

    public int lay(int kind, int thick) {
        if (!isKind(kind) || outside(thick, 1, MOST_THICK)) {
            return BAD;
        }
        Coats coats = house.coats;
        if (coats.size >= MOST_COATS) {
            return FULL;
        }
        if (coats.heaviness() + thick > house.bears) {
            return NOT;
        }
        house.remember();
        coats.putOver(kind, thick, 0);
        return coats.size - 1;
    }

    public int strip(int n) {
        if (outside(n, 1, MOST_COATS)) {
            return BAD;
        }
        if (n > house.coats.size) {
            return NOT;
        }
        house.remember();
        house.coats.size -= n;
        return house.coats.size;
    }

    public int pull(int coat, int n) {
        Coats coats = house.coats;
        if (!coats.has(coat) || outside(n, 1, MOST_THICK)) {
            return BAD;
        }
        if (coats.thick[coat] <= 1) {
            return NOT;
        }
        house.remember();
        coats.thick[coat] = Math.max(1, coats.thick[coat] - n);
        return coats.thick[coat];
    }

    public int fire(int heat) {
        if (outside(heat, 0, MOST_HEAT)) {
            return BAD;
        }
        house.remember();
        return house.coats.burn(heat);
    }

    public int drift(int n) {
        int refusal = refuseYears(n);
        return refusal < 0 ? refusal : liveThrough(n, true);
    }

    public int undo() {
        if (house.known == 0) {
            return NONE;
        }
        house.goBack();
        return house.known;
    }

    public int seed(int v) {
        if (v < 0) {
            return BAD;
        }
        int before = house.coats.draw;
        house.coats.draw = v;
        return before;
    }

    // ---- 2 foretold

    public int ahead(int n, int what) {
        if (outside(n, 0, MOST_YEARS) || outside(what, 0, 2)) {
            return BAD;
        }
        startTrial();
        leaksOfTrial(n);
        switch (what) {
            case 0: return trial.size;
            case 1: return trial.leaked;
            default: return trial.heaviness();
        }
    }

    public int leak() {
        startTrial();
        for (int year = 1; year <= MOST_YEARS; year++) {
            if (yearOfTrial() > 0) {
                return year;
            }
        }
        return NONE;
    }

    public int bare() {
        startTrial();
        for (int year = 0; year <= MOST_YEARS; year++) {
            if (trial.size == 0) {
                return year;
            }
            yearOfTrial();
        }
        return NONE;
    }

    public int reach(int v) {
        if (outside(v, -1, MOST_RAIN_ASKED)) {
            return BAD;
        }
        Coats coats = house.coats;
        return coats.reachedBy(v == -1 ? house.weather.inYear(coats.year) : v);
    }

    public int cover(int kind, int n) {
        if (!isKind(kind) || outside(n, 1, MOST_YEARS_PLANNED)) {
            return BAD;
        }
        if (house.coats.size >= MOST_COATS) {
            return FULL;
        }
        for (int thick = 1; thick <= MOST_THICK; thick++) {
            startTrial();
            trial.putOver(kind, thick, 0);
            if (leaksOfTrialUpTo(n, 0) == 0) {
                return thick;
            }
        }
        return NONE;
    }

    public int relief(int n, int what) {
        if (outside(n, 1, MOST_YEARS_PLANNED) || outside(what, 0, 1)) {
            return BAD;
        }
        int best = NONE;
        int least = ABOVE_ALL;
        for (int coat = 0; coat < house.coats.size; coat++) {
            startTrial();
            trial.takeOut(coat);
            if (trial.heaviness() <= house.bears) {
                int leaks = leaksOfTrial(n);
                if (leaks < least) {
                    least = leaks;
                    best = coat;
                }
            }
        }
        return best == NONE || what == 0 ? best : least;
    }

    public int share(int s, int n, int k) {
        if (outside(s, 0, MOST_STRAW) || outside(n, 1, MOST_YEARS_PLANNED) || k < -2) {
            return BAD;
        }
        if (house.coats.size == 0 || k >= house.coats.size) {
            return NONE;
        }
        findBestParting(s, n);
        switch (k) {
            case -1: return parting.leastLeaks;
            case -2: return parting.leastHeavy;
            default: return parting.best[k];
        }
    }

    public int worst(int what) {
        if (outside(what, 0, 1)) {
            return BAD;
        }
        int worstYear = NONE;
        int most = 0;
        startTrial();
        for (int year = 0; year < MOST_YEARS; year++) {
            int leaks = yearOfTrial();
            if (leaks > most) {
                most = leaks;
                worstYear = year;
            }
        }
        return worstYear == NONE || what == 0 ? worstYear : most;
    }

    public int hot(int k) {
        Coats coats = house.coats;
        if (outside(k, 1, coats.size)) {
            return BAD;
        }
        int heat = 0;
        for (int coat = coats.size - 1; coat >= coats.size - k; coat--) {
            if (coats.stopsFire(coat)) {
                return NONE;
            }
            heat += coats.heavinessOf(coat);
        }
        return heat <= MOST_HEAT ? heat : NONE;
    }

    public int bursts(int n, int c, int what) {
        if (outside(n, 0, MOST_BURST_YEARS) || outside(c, 0, BURSTS_OF) || outside(what, 0, 1)) {
            return BAD;
        }
        int above = 0;
        for (int burstYears = 0; burstYears < 1 << n; burstYears++) {
            if (staysDry(n, burstYears)) {
                int howMany = Integer.bitCount(burstYears);
                above += power(c, howMany) * power(BURSTS_OF - c, n - howMany);
            }
        }
        int below = power(BURSTS_OF, n);
        int divisor = greatestDivisor(above, below);
        return (what == 0 ? above : below) / divisor;
    }

    public int image() {
        kept.become(house);
        hasImage = true;
        return 1;
    }

    public int restore() {
        if (!hasImage) {
            return NONE;
        }
        house.become(kept);
        return 1;
    }

    // ---- 3 sheets

    public int stains(int coat, int sheet, int lane, int i, int n, int what) {
        if (!house.coats.has(coat) || !isSheet(sheet) || !isLane(lane)
                || outside(n, 1, MOST_STAINS) || outside(what, 0, 1)) {
            return BAD;
        }
        int refusal = sheets[sheet].refuse(lane, i, n);
        if (refusal < 0) {
            return refusal;
        }
        return what == 0 ? kindsThatFit(coat, sheets[sheet], i, n) : thicksThatFit(coat, sheets[sheet], i, n);
    }

    public int film(int n, int sheet, int lane, int i) {
        if (outside(n, 1, MOST_ITEMS) || !isSheet(sheet) || !isLane(lane)) {
            return BAD;
        }
        int refusal = sheets[sheet].refuse(lane, i, n);
        if (refusal < 0) {
            return refusal;
        }
        startTrial();
        for (int year = 0; year < n; year++) {
            sheets[sheet].put(i + year, yearOfTrial());
        }
        return n;
    }

    public int sheet(int sheet, int lane, int n) {
        if (!isSheet(sheet) || !isLane(lane) || n > MOST_ITEMS) {
            return BAD;
        }
        if (n < 0) {
            return SIZE;
        }
        sheets[sheet].begin(lane, n);
        return n;
    }

    public int drop(int sheet) {
        if (!isSheet(sheet)) {
            return BAD;
        }
        if (!sheets[sheet].holdsRow) {
            return NULL;
        }
        sheets[sheet].holdsRow = false;
        return sheets[sheet].size;
    }

    public int item(int sheet, int lane, int i, long v) {
        if (!isSheet(sheet) || !isLane(lane)) {
            return BAD;
        }
        int refusal = sheets[sheet].refuse(lane, i, 1);
        if (refusal < 0) {
            return refusal;
        }
        sheets[sheet].put(i, v);
        return 1;
    }

    public int copy(int from, int i, int to, int j, int n) {
        if (!isSheet(from) || !isSheet(to)) {
            return BAD;
        }
        Sheet source = sheets[from];
        Sheet target = sheets[to];
        if (!source.holdsRow || !target.holdsRow) {
            return NULL;
        }
        if (source.lane != target.lane) {
            return CAST;
        }
        if (!source.spans(i, n) || !target.spans(j, n)) {
            return INDEX;
        }
        System.arraycopy(source.items, i, target.items, j, n);
        return n;
    }

    // ---- what numbers are as told

    private static boolean outside(int v, int low, int high) {
        return v < low || v > high;
    }

    private static boolean isKind(int kind) {
        return !outside(kind, 0, KINDS - 1);
    }

    private static boolean isSheet(int sheet) {
        return !outside(sheet, 0, SHEETS - 1);
    }

    private static boolean isLane(int lane) {
        return !outside(lane, 0, LANES - 1);
    }

    // ---- years that are lived through

    private int refuseYears(int n) {
        if (outside(n, 1, MOST_YEARS)) {
            return BAD;
        }
        return house.coats.year + n > LAST_YEAR ? FULL : 0;
    }

    private int liveThrough(int n, boolean drifting) {
        int leaks = 0;
        for (int year = 0; year < n; year++) {
            house.remember();
            if (drifting) {
                house.coats.drawOut();
            }
            leaks += house.coats.passYear(house.weather.inYear(house.coats.year));
        }
        return leaks;
    }

    // ---- years that are foretold, on a trial roof so that the house stays as it is

    private void startTrial() {
        trial.become(house.coats);
    }

    private int yearOfTrial() {
        return trial.passYear(house.weather.inYear(trial.year));
    }

    private int leaksOfTrial(int n) {
        return leaksOfTrialUpTo(n, ABOVE_ALL);
    }

    /** Ends early above the limit: who asks has no use for a worse one's exact number. */
    private int leaksOfTrialUpTo(int n, int limit) {
        int leaks = 0;
        for (int year = 0; year < n && leaks <= limit; year++) {
            leaks += yearOfTrial();
        }
        return leaks;
    }

    private void findBestParting(int straw, int n) {
        parting.begin(house.coats.size, straw);
        for (int tries = 0; tries < MOST_PARTINGS; tries++) {
            startTrial();
            trial.thicken(parting.straws);
            int leaks = leaksOfTrialUpTo(n, parting.leastLeaks);
            if (leaks <= parting.leastLeaks) {
                parting.keepIfBetter(leaks, trial.heaviness());
            }
            if (!parting.advance()) {
                return;
            }
        }
    }

    private boolean staysDry(int n, int burstYears) {
        startTrial();
        for (int year = 0; year < n; year++) {
            int water = house.weather.inYear(trial.year);
            boolean burst = (burstYears >> year & 1) != 0;
            if (trial.passYear(burst ? 2 * water : water) > 0) {
                return false;
            }
        }
        return true;
    }

    private int kindsThatFit(int coat, Sheet sheet, int from, int n) {
        int fitting = 0;
        for (int kind = 0; kind < KINDS; kind++) {
            startTrial();
            trial.kind[coat] = kind;
            if (trialLeaksAs(sheet, from, n)) {
                fitting |= 1 << kind;
            }
        }
        return fitting;
    }

    private int thicksThatFit(int coat, Sheet sheet, int from, int n) {
        int fitting = 0;
        for (int thick = 1; thick <= MOST_THICK; thick++) {
            startTrial();
            trial.thick[coat] = thick;
            if (trialLeaksAs(sheet, from, n)) {
                fitting |= 1 << thick;
            }
        }
        return fitting;
    }

    private boolean trialLeaksAs(Sheet sheet, int from, int n) {
        for (int year = 0; year < n; year++) {
            if (sheet.items[from + year] != yearOfTrial()) {
                return false;
            }
        }
        return true;
    }

    // ---- numbers

    private static int power(int base, int exponent) {
        int product = 1;
        for (int i = 0; i < exponent; i++) {
            product *= base;
        }
        return product;
    }

    private static int greatestDivisor(int a, int b) {
        int larger = a;
        int smaller = b;
        for (int i = 0; i < MOST_DIVISIONS && smaller != 0; i++) {
            int rest = larger % smaller;
            larger = smaller;
            smaller = rest;
        }
        return Math.max(1, larger);
    }

    /** The coats with all that an undo brings back: the year, what leaked, the draw. */
    private static final class Coats {
        final int[] kind = new int[MOST_COATS];
        final int[] thick = new int[MOST_COATS];
        final int[] damp = new int[MOST_COATS];
        final int[] laid = new int[MOST_COATS];
        int size = 0;
        int year = 0;
        int leaked = 0;
        int draw = 1;

        void become(Coats other) {
            becomeCoatsOf(other);
            year = other.year;
            leaked = other.leaked;
            draw = other.draw;
        }

        void becomeCoatsOf(Coats other) {
            size = other.size;
            System.arraycopy(other.kind, 0, kind, 0, MOST_COATS);
            System.arraycopy(other.thick, 0, thick, 0, MOST_COATS);
            System.arraycopy(other.damp, 0, damp, 0, MOST_COATS);
            System.arraycopy(other.laid, 0, laid, 0, MOST_COATS);
        }

        boolean has(int coat) {
            return coat >= 0 && coat < size;
        }

        int mostTaken(int coat) {
            switch (kind[coat]) {
                case WHEAT: return thick[coat] / 2;
                case SEDGE: return takenAsSedge(coat);
                case RYE: return thick[coat] / 2 + year % 2;
                case TURF: return 2 * takenAsSedge(coat);
                default: return thick[coat];
            }
        }

        private int takenAsSedge(int coat) {
            return damp[coat] == 0 ? thick[coat] + 2 : thick[coat];
        }

        int mostTakenAbove(int coat) {
            int sum = 0;
            for (int above = coat + 1; above < size; above++) {
                sum += mostTaken(above);
            }
            return sum;
        }

        int reachedBy(int water) {
            int reached = 0;
            int left = water;
            for (int coat = size - 1; coat >= 0 && left > 0; coat--) {
                reached++;
                left -= mostTaken(coat);
            }
            return reached;
        }

        int heavinessOf(int coat) {
            return thick[coat] + damp[coat];
        }

        int heaviness() {
            int sum = 0;
            for (int coat = 0; coat < size; coat++) {
                sum += heavinessOf(coat);
            }
            return sum;
        }

        int thickness() {
            int sum = 0;
            for (int coat = 0; coat < size; coat++) {
                sum += thick[coat];
            }
            return sum;
        }

        void putOver(int newKind, int newThick, int newDamp) {
            if (size >= MOST_COATS) {
                return;
            }
            kind[size] = newKind;
            thick[size] = newThick;
            damp[size] = newDamp;
            laid[size] = year;
            size++;
        }

        void takeOut(int coat) {
            if (!has(coat)) {
                return;
            }
            for (int i = coat; i < size - 1; i++) {
                kind[i] = kind[i + 1];
                thick[i] = thick[i + 1];
                damp[i] = damp[i + 1];
                laid[i] = laid[i + 1];
            }
            size--;
        }

        void thicken(int[] straws) {
            for (int coat = 0; coat < size; coat++) {
                thick[coat] = Math.min(MOST_THICK, thick[coat] + straws[coat]);
            }
        }

        /** Answers what leaks. Each coat is dampened in passing: no other coat looks at its damp. */
        int passYear(int water) {
            int left = water;
            for (int coat = size - 1; coat >= 0; coat--) {
                int took = Math.min(left, mostTaken(coat));
                left -= took;
                dampen(coat, took);
            }
            leaked += left;
            wearTop();
            year++;
            return left;
        }

        private void dampen(int coat, int took) {
            damp[coat] = took == 0 ? Math.max(0, damp[coat] - 2) : Math.min(MOST_DAMP, damp[coat] + took / 2);
        }

        private void wearTop() {
            if (size == 0) {
                return;
            }
            thick[size - 1]--;
            if (thick[size - 1] <= 0) {
                size--;
            }
        }

        boolean stopsFire(int coat) {
            return damp[coat] > DAMP_THAT_STOPS;
        }

        int burn(int heat) {
            int before = size;
            int left = heat;
            for (int coat = before - 1; coat >= 0; coat--) {
                if (stopsFire(coat) || left < heavinessOf(coat)) {
                    break;
                }
                left -= heavinessOf(coat);
                size--;
            }
            return before - size;
        }

        void drawOut() {
            draw = (int) (draw * 1103515245L + 12345L & 0x7fffffffL);
            if (size == 0 || draw / 65536 % 3 != 0) {
                return;
            }
            int coat = draw / 128 % size;
            if (thick[coat] > 1) {
                thick[coat]--;
            }
        }
    }

    /** The row of rains that come round. */
    private static final class Weather {
        final int[] row = new int[MOST_RAINS];
        int size = 0;

        void become(Weather other) {
            size = other.size;
            System.arraycopy(other.row, 0, row, 0, MOST_RAINS);
        }

        void append(int v) {
            if (size < MOST_RAINS) {
                row[size] = v;
                size++;
            }
        }

        int inYear(int year) {
            return size == 0 ? 0 : row[year % size];
        }
    }

    /** All that an image keeps; what may be undone lies in a ring, so that the oldest is lost first. */
    private static final class House {
        int bears = FIRST_WALLS;
        final Weather weather = new Weather();
        final Coats coats = new Coats();
        final Coats[] past = new Coats[MOST_KNOWN];
        int known = 0;
        int nextPast = 0;

        House() {
            for (int i = 0; i < MOST_KNOWN; i++) {
                past[i] = new Coats();
            }
        }

        void become(House other) {
            bears = other.bears;
            weather.become(other.weather);
            coats.become(other.coats);
            for (int i = 0; i < MOST_KNOWN; i++) {
                past[i].become(other.past[i]);
            }
            known = other.known;
            nextPast = other.nextPast;
        }

        void remember() {
            past[nextPast].become(coats);
            nextPast = (nextPast + 1) % MOST_KNOWN;
            known = Math.min(MOST_KNOWN, known + 1);
        }

        void goBack() {
            if (known == 0) {
                return;
            }
            nextPast = (nextPast + MOST_KNOWN - 1) % MOST_KNOWN;
            coats.become(past[nextPast]);
            known--;
        }

        void takeOver(Tape told) {
            bears = told.bears;
            weather.become(told.weather);
            coats.becomeCoatsOf(told.coats);
            coats.year = 0;
            coats.leaked = 0;
            known = 0;
        }
    }

    /** Straw parted among coats, all ways in rising order, so that of like ones the first is kept. */
    private static final class Parting {
        final int[] straws = new int[MOST_COATS];
        final int[] best = new int[MOST_COATS];
        int coats = 0;
        int leastLeaks = 0;
        int leastHeavy = 0;

        void begin(int howMany, int straw) {
            coats = howMany;
            leastLeaks = ABOVE_ALL;
            leastHeavy = ABOVE_ALL;
            for (int i = 0; i < MOST_COATS; i++) {
                straws[i] = i == howMany - 1 ? straw : 0;
            }
        }

        void keepIfBetter(int leaks, int heavy) {
            if (leaks > leastLeaks || leaks == leastLeaks && heavy >= leastHeavy) {
                return;
            }
            leastLeaks = leaks;
            leastHeavy = heavy;
            System.arraycopy(straws, 0, best, 0, MOST_COATS);
        }

        /** The next way: one straw of the last heap moves a coat down, the rest of it to the end. */
        boolean advance() {
            int last = coats - 1;
            while (last > 0 && straws[last] == 0) {
                last--;
            }
            if (last <= 0) {
                return false;
            }
            int heap = straws[last];
            straws[last] = 0;
            straws[last - 1]++;
            straws[coats - 1] = heap - 1;
            return true;
        }
    }

    /** The letters typed, and the roof read from them, apart from the house until it has no fault. */
    private static final class Tape {
        private static final int NO_FAULT = -1;

        final char[] letters = new char[MOST_LETTERS];
        final Weather weather = new Weather();
        final Coats coats = new Coats();
        int size = 0;
        int bears = 0;
        int place = 0;
        int fault = NO_FAULT;

        void append(char letter) {
            if (size < MOST_LETTERS) {
                letters[size] = letter;
                size++;
            }
        }

        /** Answers the place of the fault, or below 0 if there is none. */
        int readRoof() {
            place = 0;
            fault = NO_FAULT;
            weather.size = 0;
            coats.size = 0;
            bears = 2 * readNumber(1, 99);
            for (int i = 0; i < MOST_RAINS && fault < 0 && takeLetter('+'); i++) {
                weather.append(readNumber(0, MOST_RAIN));
            }
            if (fault < 0 && takeLetter(';')) {
                readCoats();
            }
            skipBlanks();
            if (fault < 0 && place < size) {
                fault = place;
            }
            return fault;
        }

        private void readCoats() {
            readCoat();
            for (int i = 1; i < MOST_COATS && fault < 0 && takeLetter(','); i++) {
                readCoat();
            }
        }

        private void readCoat() {
            int kind = readKind();
            int thick = fault < 0 ? readNumber(1, MOST_THICK) : 0;
            int damp = fault < 0 && takeLetter('~') ? readDigit() : 0;
            if (fault < 0) {
                coats.putOver(kind, thick, damp);
            }
        }

        private int readKind() {
            if (takeLetter('r')) {
                return REED;
            }
            if (takeLetter('w')) {
                return WHEAT;
            }
            if (takeLetter('s')) {
                return SEDGE;
            }
            if (takeLetter('y')) {
                return RYE;
            }
            if (takeLetter('t')) {
                return TURF;
            }
            fault = place;
            return REED;
        }

        private int readNumber(int low, int high) {
            skipBlanks();
            int first = place;
            int value = readDigit();
            if (fault < 0 && digitStandsHere()) {
                value = 10 * value + readDigit();
            }
            if (fault < 0 && outside(value, low, high)) {
                fault = first;
            }
            return value;
        }

        private int readDigit() {
            skipBlanks();
            if (!digitStandsHere()) {
                fault = place;
                return 0;
            }
            int digit = letters[place] - '0';
            place++;
            return digit;
        }

        private boolean takeLetter(char letter) {
            skipBlanks();
            if (place >= size || letters[place] != letter) {
                return false;
            }
            place++;
            return true;
        }

        private void skipBlanks() {
            while (place < size && letters[place] == ' ') {
                place++;
            }
        }

        private boolean digitStandsHere() {
            return place < size && letters[place] >= '0' && letters[place] <= '9';
        }
    }

    /** A row of a lane, or nothing; longs hold every lane's items, cut to its bits when they come. */
    private static final class Sheet {
        final long[] items = new long[MOST_ITEMS];
        boolean holdsRow = false;
        int lane = BYTES;
        int size = 0;

        void begin(int newLane, int newSize) {
            holdsRow = true;
            lane = newLane;
            size = newSize;
            for (int i = 0; i < MOST_ITEMS; i++) {
                items[i] = 0;
            }
        }

        /** What stands against n items from there on being taken as a row of that lane; 0: nothing. */
        int refuse(int asLane, int from, int n) {
            if (!holdsRow) {
                return NULL;
            }
            if (asLane != lane) {
                return CAST;
            }
            return spans(from, n) ? 0 : INDEX;
        }

        boolean spans(int from, int n) {
            return from >= 0 && n >= 0 && from <= size - n;
        }

        void put(int i, long v) {
            items[i] = cutToLane(v);
        }

        private long cutToLane(long v) {
            switch (lane) {
                case BYTES: return (byte) v;
                case SHORTS: return (short) v;
                case INTS: return (int) v;
                default: return v;
            }
        }
    }
}
