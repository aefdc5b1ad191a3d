/** A bench along a wall, sunny by the hour at one end, and the men who come to it and go from it. */
public final class SunBench {
    public static final int NONE = -1000000, BAD = -1000001, STATE = -1000002, FULL = -1000003;

    private static final int FOUND = -1000010, FAULTY = -1000100;
    private static final int NULL = 1, PLACE = 2, KIND = 3, SIZE = 4, STORE = 5;

    private static final int MOST_MEN = 7, DAY = 24, LAST_HOUR = 999;
    private static final int FAR = 60, COMING = 40, TOLD = 12, LAST_SEED = 999999;
    private static final int AS_IT_IS = 128, EVEN_WAGER = 1000;
    private static final long DRAW_TIMES = 16807L, DRAW_BY = 2147483647L;

    private final Rows rows = new Rows();
    private final Tape tape = new Tape();
    private final Bench bench = new Bench();
    private final Acts acts = new Acts();
    private final Bench firstImage = new Bench();
    private final Bench secondImage = new Bench();
    // Two benches to foretell on, kept so that no call has to make one.
    private final Bench trial = new Bench();
    private final Bench second = new Bench();
    private final Asks asks = new Asks();
    private int latestFault = 0;
    private int latestFinding = 0;

    public SunBench() {
    }

    // ---- rows

    public int row(int row, int lane, int n) {
        if (noRow(row) || outside(lane, 0, Rows.LANES - 1) || n > Rows.MOST_ITEMS) {
            return BAD;
        }
        if (n < 0) {
            return finding(SIZE);
        }
        rows.make(row, lane, n);
        return noFinding(n);
    }

    public int set(int row, int i, int v) {
        if (noRow(row)) {
            return BAD;
        }
        int found = findingOf(row, i, 1);
        return found != 0 ? finding(found) : noFinding(rows.put(row, i, v));
    }

    public int copy(int a, int i, int b, int j, int n) {
        if (noRow(a) || noRow(b)) {
            return BAD;
        }
        if (rows.isMissing(a) || rows.isMissing(b)) {
            return finding(NULL);
        }
        if (rows.laneOf(a) != rows.laneOf(b)) {
            return finding(STORE);
        }
        if (!rows.reaches(a, i, n) || !rows.reaches(b, j, n)) {
            return finding(PLACE);
        }
        rows.move(a, i, b, j, n);
        return noFinding(n);
    }

    public int drop(int row) {
        if (noRow(row)) {
            return BAD;
        }
        return rows.isMissing(row) ? finding(NULL) : noFinding(rows.remove(row));
    }

    // ---- what is told

    public int feed(int letter) {
        if (outside(letter, 0, 255)) {
            return BAD;
        }
        return tape.isFull() ? FULL : tape.add(letter);
    }

    public int bench() {
        boolean isRead = tape.readInto(trial);
        tape.clear();
        if (!isRead) {
            latestFault = tape.fault;
            return FAULTY - tape.faultPlace;
        }
        bench.become(trial);
        acts.clear();
        return bench.men;
    }

    public int fault() {
        return latestFault;
    }

    public int undo() {
        if (acts.kept == 0) {
            return STATE;
        }
        acts.takeBack(bench);
        return acts.kept;
    }

    // ---- what is done

    public int hours(int n) {
        if (noBench()) {
            return STATE;
        }
        if (outside(n, 1, DAY)) {
            return BAD;
        }
        if (bench.hour + n > LAST_HOUR) {
            return FULL;
        }
        for (int k = 0; k < n; k++) {
            acts.keep(bench);
            bench.passHour(0);
        }
        return bench.sittersAsBits();
    }

    public int snuff(int man) {
        if (noMan(man)) {
            return BAD;
        }
        if (bench.placeOf(man) <= 0) {
            return STATE;
        }
        acts.keep(bench);
        bench.takeSnuff(man);
        return bench.placeOf(man);
    }

    public int leave(int man) {
        if (noMan(man)) {
            return BAD;
        }
        if (bench.isAwayForGood(man)) {
            return STATE;
        }
        acts.keep(bench);
        bench.sendAway(man);
        return bench.sitting;
    }

    public int come(int man) {
        if (noMan(man)) {
            return BAD;
        }
        if (!bench.isAwayForGood(man)) {
            return STATE;
        }
        acts.keep(bench);
        bench.seat(man, bench.sitting);
        return bench.placeOf(man);
    }

    public int june(int on) {
        if (noBench()) {
            return STATE;
        }
        if (outside(on, 0, 1)) {
            return BAD;
        }
        if (bench.isJune == (on == 1)) {
            return STATE;
        }
        acts.keep(bench);
        bench.isJune = on == 1;
        return bench.sunnyAsBits();
    }

    public int man(int man, int what) {
        if (noMan(man)) {
            return BAD;
        }
        switch (what) {
            case 0: return placeOrNone(bench, man);
            case 1: return bench.warm[man];
            case 2: return bench.isAtDinner(man) ? bench.back[man] - bench.hour : NONE;
            case 3: return bench.sitsInSun(man) ? 1 : 0;
            case 4: return bench.dinners[man];
            case 5: return bench.longs[man];
            default: return BAD;
        }
    }

    public int place(int place) {
        if (noBench()) {
            return STATE;
        }
        if (outside(place, 0, MOST_MEN - 1)) {
            return BAD;
        }
        return place < bench.sitting ? bench.order[place] : NONE;
    }

    public int sun(int h) {
        if (noBench()) {
            return STATE;
        }
        return outside(h, 0, DAY - 1) ? BAD : bench.sunIn(h);
    }

    // ---- foretold

    public int ahead(int man, int n, int what) {
        if (noMan(man) || outside(n, 0, FAR) || outside(what, 0, 1)) {
            return BAD;
        }
        foretell(trial, n);
        return what == 0 ? placeOrNone(trial, man) : trial.warm[man];
    }

    public int sunny(int man) {
        if (noMan(man)) {
            return BAD;
        }
        trial.become(bench);
        for (int k = 0; k <= FAR; k++) {
            if (trial.sitsInSun(man)) {
                return k;
            }
            trial.passHour(0);
        }
        return NONE;
    }

    public int most(int n, int what) {
        if (noBench()) {
            return STATE;
        }
        if (outside(n, 0, FAR) || outside(what, 0, 1)) {
            return BAD;
        }
        foretell(trial, n);
        int warmest = 0;
        for (int man = 1; man < trial.men; man++) {
            if (trial.warm[man] > trial.warm[warmest]) {
                warmest = man;
            }
        }
        return what == 0 ? warmest : trial.warm[warmest];
    }

    public int leastSnuff(int man, int n, int w) {
        if (noMan(man) || outside(n, 1, FAR) || outside(w, 1, FAR)) {
            return BAD;
        }
        int place = bench.placeOf(man);
        if (place < 0) {
            return STATE;
        }
        second.become(bench);
        for (int times = 0; times <= place; times++) {
            trial.become(second);
            trial.passHours(n);
            if (trial.warm[man] - bench.warm[man] >= w) {
                return times;
            }
            second.takeSnuff(man);
        }
        return NONE;
    }

    public int whenToCome(int man, int n, int what) {
        if (noMan(man) || outside(n, 1, COMING) || outside(what, 0, 1)) {
            return BAD;
        }
        if (!bench.isAwayForGood(man)) {
            return STATE;
        }
        int best = 0;
        int bestWarm = -1;
        second.become(bench);
        for (int k = 0; k < n; k++) {
            trial.become(second);
            trial.seat(man, trial.sitting);
            trial.passHours(n - k);
            int warmer = trial.warm[man] - bench.warm[man];
            if (warmer > bestWarm) {
                best = k;
                bestWarm = warmer;
            }
            second.passHour(0);
        }
        return what == 0 ? best : bestWarm;
    }

    public int rang(int row, int i, int n) {
        if (noBench()) {
            return STATE;
        }
        if (noRow(row) || outside(n, 1, TOLD)) {
            return BAD;
        }
        int found = findingOf(row, i, n);
        if (found != 0) {
            return finding(found);
        }
        trial.become(bench);
        int bits = sitAsTold(row, i, n) ? AS_IT_IS : 0;
        for (int man = 0; man < bench.men; man++) {
            trial.become(bench);
            trial.dinners[man] = (bench.dinners[man] + DAY - 1) % DAY;
            if (sitAsTold(row, i, n)) {
                bits |= 1 << man;
            }
        }
        return noFinding(bits);
    }

    public int who(int man, int row, int i, int n) {
        if (noMan(man) || noRow(row) || outside(n, 1, TOLD)) {
            return BAD;
        }
        int found = findingOf(row, i, n);
        if (found != 0) {
            return finding(found);
        }
        int bits = 0;
        for (int kind = Kinds.SITTER; kind <= Kinds.DOCTOR; kind++) {
            trial.become(bench);
            trial.kinds[man] = kind;
            if (sitsAsTold(man, row, i, n)) {
                bits |= 1 << kind;
            }
        }
        return noFinding(bits);
    }

    public int elm(int n) {
        if (noBench()) {
            return STATE;
        }
        if (outside(n, 1, FAR)) {
            return BAD;
        }
        foretell(trial, n);
        second.become(bench);
        second.wide--;
        second.passHours(n);
        int bits = 0;
        for (int man = 0; man < bench.men; man++) {
            if (second.warm[man] < trial.warm[man]) {
                bits |= 1 << man;
            }
        }
        return bits;
    }

    public int lasts() {
        if (noBench()) {
            return STATE;
        }
        int sunnyHours = 0;
        // The next 24 HOURS are each h once, whichever is the first.
        for (int h = 0; h < DAY; h++) {
            if (bench.sunIn(h) > 0) {
                sunnyHours++;
            }
        }
        return sunnyHours;
    }

    public int wager(int man, int other, int n) {
        if (noMan(man) || noMan(other) || man == other || outside(n, 1, FAR)) {
            return BAD;
        }
        foretell(trial, n);
        return trial.warm[man] - trial.warm[other] + EVEN_WAGER;
    }

    public int calls(int n) {
        if (noBench()) {
            return STATE;
        }
        return outside(n, 1, FAR) ? BAD : foretell(trial, n);
    }

    public long late(int man, int p, int what) {
        if (noMan(man) || outside(p, 0, 10) || outside(what, 0, 1)) {
            return BAD;
        }
        int due = bench.dueAsBits();
        long above = casesWarm(man, p, due);
        long below = power(10, Integer.bitCount(due));
        long common = commonDivisor(above, below);
        if (common == 0) {
            return what;
        }
        return what == 0 ? above / common : below / common;
    }

    public int drawn(int n, int seed, int what) {
        if (noBench()) {
            return STATE;
        }
        if (outside(n, 0, FAR) || outside(seed, 1, LAST_SEED) || outside(what, 0, 1)) {
            return BAD;
        }
        trial.become(bench);
        long x = seed;
        for (int k = 0; k < n; k++) {
            x = x * DRAW_TIMES % DRAW_BY;
            int man = (int) (x % bench.men);
            if (trial.placeOf(man) > 0) {
                trial.takeSnuff(man);
            }
            trial.passHour(0);
        }
        return what == 0 ? trial.snuffs - bench.snuffs : trial.warmOfAll();
    }

    public int image(int k) {
        if (outside(k, 0, 1)) {
            return BAD;
        }
        if (noBench()) {
            return STATE;
        }
        imageOf(k).become(bench);
        return 1;
    }

    public int restore(int k) {
        if (outside(k, 0, 1)) {
            return BAD;
        }
        if (imageOf(k).men == 0) {
            return STATE;
        }
        bench.become(imageOf(k));
        acts.clear();
        return 1;
    }

    // ---- asked

    public int kind(int one) {
        return noMan(one) ? BAD : bench.kinds[one];
    }

    public int as(int one, int kind) {
        if (noMan(one) || outside(kind, Kinds.MAN, Kinds.DOCTOR)) {
            return BAD;
        }
        return Kinds.isOne(bench.kinds[one], kind) ? noFinding(one) : finding(KIND);
    }

    public int ask(int one, int what) {
        if (noMan(one) || outside(what, 0, 1)) {
            return BAD;
        }
        return asks.begin(bench, one, what);
    }

    public int trace(int i) {
        return outside(i, 0, asks.left - 1) ? NONE : asks.bodies[i];
    }

    public int count(int what) {
        switch (what) {
            case 0: return rows.present();
            case 1: return bench.men;
            case 2: return bench.sittersAsBits();
            case 3: return bench.hour;
            case 4: return bench.snuffs;
            case 5: return bench.isJune ? 1 : 0;
            case 6: return acts.kept;
            case 7: return tape.length;
            default: return BAD;
        }
    }

    public int status() {
        return latestFinding;
    }

    // ---- refusals and findings

    private static boolean outside(int n, int least, int highest) {
        return n < least || n > highest;
    }

    private static boolean noRow(int row) {
        return outside(row, 0, Rows.ROWS - 1);
    }

    private boolean noBench() {
        return bench.men == 0;
    }

    private boolean noMan(int man) {
        return outside(man, 0, bench.men - 1);
    }

    private int finding(int number) {
        latestFinding = number;
        return FOUND - number;
    }

    private int noFinding(int answer) {
        latestFinding = 0;
        return answer;
    }

    private int findingOf(int row, int i, int n) {
        if (rows.isMissing(row)) {
            return NULL;
        }
        return rows.reaches(row, i, n) ? 0 : PLACE;
    }

    // ---- what foretelling shares

    private int foretell(Bench on, int n) {
        on.become(bench);
        return on.passHours(n);
    }

    private static int placeOrNone(Bench of, int man) {
        int place = of.placeOf(man);
        return place < 0 ? NONE : place;
    }

    private boolean sitAsTold(int row, int i, int n) {
        for (int k = 0; k < n; k++) {
            trial.passHour(0);
            if (trial.sitting != rows.item(row, i + k)) {
                return false;
            }
        }
        return true;
    }

    private boolean sitsAsTold(int man, int row, int i, int n) {
        for (int k = 0; k < n; k++) {
            trial.passHour(0);
            if (trial.placeOf(man) != rows.item(row, i + k)) {
                return false;
            }
        }
        return true;
    }

    /** Of 10 to the power of how many are due, the cases in which the man is WARM by 1 more. */
    private long casesWarm(int man, int p, int due) {
        int dueCount = Integer.bitCount(due);
        long cases = 0;
        for (int forgotten = 0; forgotten < 1 << MOST_MEN; forgotten++) {
            if ((forgotten & ~due) != 0) {
                continue;
            }
            trial.become(bench);
            trial.passHour(forgotten);
            if (trial.warm[man] > bench.warm[man]) {
                int forgottenCount = Integer.bitCount(forgotten);
                cases += power(p, forgottenCount) * power(10 - p, dueCount - forgottenCount);
            }
        }
        return cases;
    }

    private static long power(int base, int times) {
        long product = 1;
        for (int k = 0; k < times; k++) {
            product *= base;
        }
        return product;
    }

    private static long commonDivisor(long a, long b) {
        long larger = a;
        long smaller = b;
        // 64 rounds are above what Euclid needs for numbers up to 10 to the 7th.
        for (int round = 0; round < 64 && smaller != 0; round++) {
            long rest = larger % smaller;
            larger = smaller;
            smaller = rest;
        }
        return larger;
    }

    private Bench imageOf(int k) {
        return k == 0 ? firstImage : secondImage;
    }

    /** ROWS 0 .. 7, each with room for all its ITEMS from the start. */
    private static final class Rows {
        static final int ROWS = 8, LANES = 3, MOST_ITEMS = 40;
        private static final int BYTES = 0, SHORTS = 1;

        private final boolean[] isThere = new boolean[ROWS];
        private final int[] lanes = new int[ROWS];
        private final int[] sizes = new int[ROWS];
        private final int[][] items = new int[ROWS][MOST_ITEMS];

        boolean isMissing(int row) {
            return !isThere[row];
        }

        int laneOf(int row) {
            return lanes[row];
        }

        void make(int row, int lane, int n) {
            isThere[row] = true;
            lanes[row] = lane;
            sizes[row] = n;
            for (int i = 0; i < MOST_ITEMS; i++) {
                items[row][i] = 0;
            }
        }

        int remove(int row) {
            isThere[row] = false;
            return sizes[row];
        }

        int present() {
            int sum = 0;
            for (int row = 0; row < ROWS; row++) {
                sum += isThere[row] ? 1 : 0;
            }
            return sum;
        }

        /** Whether a ROW has n ITEMS from i on; the size less n cannot wrap around, as i and n can. */
        boolean reaches(int row, int i, int n) {
            return i >= 0 && n >= 0 && i <= sizes[row] - n;
        }

        int item(int row, int i) {
            return items[row][i];
        }

        int put(int row, int i, int v) {
            int lane = lanes[row];
            int kept = lane == BYTES ? (byte) v : lane == SHORTS ? (short) v : v;
            items[row][i] = kept;
            return kept;
        }

        void move(int a, int i, int b, int j, int n) {
            System.arraycopy(items[a], i, items[b], j, n);
        }
    }

    /** THE TAPE, and the reading of it, which ends at the first FAULT. */
    private static final class Tape {
        private static final int MOST_BYTES = 100, MOST_FIGURES = 2;
        private static final int WRONG_TOKEN = 1, WRONG_NUMBER = 2, NO_ROOM = 3;
        // In the order of the KINDS, from SITTER on.
        private static final String SORTS = "snabd";

        private final int[] bytes = new int[MOST_BYTES];
        int length = 0;
        int fault = 0;
        int faultPlace = 0;
        private int at = 0;

        boolean isFull() {
            return length >= MOST_BYTES;
        }

        int add(int letter) {
            bytes[length] = letter;
            length++;
            return length;
        }

        void clear() {
            length = 0;
        }

        /** Whether the tape tells a bench; if not, fault and faultPlace say why, and the bench is of no use. */
        boolean readInto(Bench bench) {
            at = 0;
            fault = 0;
            bench.clear();
            readLaw(bench);
            for (int man = 0; man <= MOST_MEN && fault == 0 && (man == 0 || at < length); man++) {
                readMan(bench);
            }
            return fault == 0;
        }

        private void readLaw(Bench bench) {
            readSign('b');
            bench.noon = readNumber(0, DAY - 1);
            readSign(',');
            bench.wide = readNumber(0, 9);
            readSign(';');
        }

        private void readMan(Bench bench) {
            int kind = at < length ? SORTS.indexOf((char) bytes[at]) + 1 : 0;
            if (kind == 0) {
                blame(WRONG_TOKEN);
                return;
            }
            if (bench.men >= MOST_MEN) {
                blame(NO_ROOM);
                return;
            }
            at++;
            int dinner = readNumber(0, DAY - 1);
            readSign(',');
            int longTime = readNumber(1, 9);
            readSign(';');
            bench.addMan(kind, dinner, longTime);
        }

        private void readSign(char sign) {
            if (fault != 0) {
                return;
            }
            if (at < length && bytes[at] == sign) {
                at++;
            } else {
                blame(WRONG_TOKEN);
            }
        }

        private int readNumber(int least, int highest) {
            if (fault != 0) {
                return 0;
            }
            int figures = 0;
            int value = 0;
            // One figure more than a NUMBER has is enough to see that a run is none.
            while (figures <= MOST_FIGURES && at + figures < length && isFigure(bytes[at + figures])) {
                value = value * 10 + bytes[at + figures] - '0';
                figures++;
            }
            if (figures == 0 || figures > MOST_FIGURES) {
                blame(WRONG_TOKEN);
            } else if (outside(value, least, highest)) {
                blame(WRONG_NUMBER);
            } else {
                at += figures;
            }
            return value;
        }

        private static boolean isFigure(int letter) {
            return letter >= '0' && letter <= '9';
        }

        private void blame(int number) {
            fault = number;
            faultPlace = at;
        }
    }

    /** What is told of a bench, and how it stands in an HOUR. No men: there is no BENCH. */
    private static final class Bench {
        // What stands in back for one who is not at dinner.
        private static final int SITS = -1, AWAY_FOR_GOOD = -2;

        int noon = 0;
        int wide = 0;
        int men = 0;
        final int[] kinds = new int[MOST_MEN];
        final int[] dinners = new int[MOST_MEN];
        final int[] longs = new int[MOST_MEN];

        int hour = 0;
        int snuffs = 0;
        boolean isJune = false;
        int sitting = 0;
        final int[] order = new int[MOST_MEN];
        final int[] warm = new int[MOST_MEN];
        final int[] back = new int[MOST_MEN];

        void clear() {
            noon = 0;
            wide = 0;
            men = 0;
            hour = 0;
            snuffs = 0;
            isJune = false;
            sitting = 0;
        }

        void addMan(int kind, int dinner, int longTime) {
            if (men >= MOST_MEN) {
                return;
            }
            kinds[men] = kind;
            dinners[men] = dinner;
            longs[men] = longTime;
            warm[men] = 0;
            men++;
            seat(men - 1, sitting);
        }

        void become(Bench as) {
            noon = as.noon;
            wide = as.wide;
            men = as.men;
            hour = as.hour;
            snuffs = as.snuffs;
            isJune = as.isJune;
            sitting = as.sitting;
            for (int k = 0; k < MOST_MEN; k++) {
                kinds[k] = as.kinds[k];
                dinners[k] = as.dinners[k];
                longs[k] = as.longs[k];
                order[k] = as.order[k];
                warm[k] = as.warm[k];
                back[k] = as.back[k];
            }
        }

        int sunIn(int h) {
            int apart = Math.abs(h - noon);
            return Math.max(0, wide - Math.min(apart, DAY - apart));
        }

        private int sunNow() {
            return sunIn(hour % DAY);
        }

        private boolean hasSun(int place, int sun) {
            return isJune ? place >= sitting - sun : place < sun;
        }

        boolean sitsInSun(int man) {
            int place = placeOf(man);
            return place >= 0 && hasSun(place, sunNow());
        }

        /** -1 for one who does not sit. */
        int placeOf(int man) {
            for (int place = 0; place < sitting; place++) {
                if (order[place] == man) {
                    return place;
                }
            }
            return -1;
        }

        boolean isAwayForGood(int man) {
            return back[man] == AWAY_FOR_GOOD;
        }

        boolean isAtDinner(int man) {
            return back[man] >= 0;
        }

        int sittersAsBits() {
            int bits = 0;
            for (int place = 0; place < sitting; place++) {
                bits |= 1 << order[place];
            }
            return bits;
        }

        int sunnyAsBits() {
            int bits = 0;
            int sun = sunNow();
            for (int place = 0; place < sitting; place++) {
                bits |= hasSun(place, sun) ? 1 << order[place] : 0;
            }
            return bits;
        }

        /** Those who sit, and whose DINNER is in this HOUR. */
        int dueAsBits() {
            int bits = 0;
            for (int place = 0; place < sitting; place++) {
                bits |= isDue(order[place]) ? 1 << order[place] : 0;
            }
            return bits;
        }

        int warmOfAll() {
            int sum = 0;
            for (int man = 0; man < men; man++) {
                sum += warm[man];
            }
            return sum;
        }

        /** How often somebody went in them. */
        int passHours(int n) {
            int went = 0;
            for (int k = 0; k < n; k++) {
                went += passHour(0);
            }
            return went;
        }

        /** How many went; those forgotten (bits) are not called. */
        int passHour(int forgotten) {
            int sun = sunNow();
            seatWhoIsBack();
            int went = callToDinner(forgotten, sun);
            for (int place = 0; place < sitting; place++) {
                warm[order[place]] += hasSun(place, sun) ? 1 : 0;
            }
            hour++;
            return went;
        }

        private void seatWhoIsBack() {
            for (int man = 0; man < men; man++) {
                if (isAtDinner(man) && back[man] <= hour) {
                    seat(man, kinds[man] == Kinds.ADMIRAL ? sitting / 2 : sitting);
                }
            }
        }

        private int callToDinner(int forgotten, int sun) {
            int went = 0;
            int place = 0;
            int satAtFirst = sitting;
            for (int looked = 0; looked < satAtFirst; looked++) {
                int man = order[place];
                boolean isCalled = isDue(man) && (forgotten & 1 << man) == 0;
                if (isCalled && goesWhenCalled(kinds[man], hasSun(place, sun))) {
                    // All behind him move up: the next one is at this same place.
                    unseat(place);
                    back[man] = hour + longs[man];
                    went++;
                } else {
                    place++;
                }
            }
            return went;
        }

        private boolean isDue(int man) {
            return dinners[man] == hour % DAY;
        }

        private static boolean goesWhenCalled(int kind, boolean isInSun) {
            switch (kind) {
                case Kinds.SITTER:
                case Kinds.ADMIRAL:
                    return true;
                case Kinds.NAPPER:
                    return !isInSun;
                case Kinds.DOCTOR:
                    return isInSun;
                default:
                    return false;
            }
        }

        /** Seats one who does not sit, those from there on being one further. */
        void seat(int man, int place) {
            if (sitting >= MOST_MEN || outside(place, 0, sitting)) {
                return;
            }
            for (int k = sitting; k > place; k--) {
                order[k] = order[k - 1];
            }
            order[place] = man;
            back[man] = SITS;
            sitting++;
        }

        private void unseat(int place) {
            sitting--;
            for (int k = place; k < sitting; k++) {
                order[k] = order[k + 1];
            }
        }

        void sendAway(int man) {
            int place = placeOf(man);
            if (place >= 0) {
                unseat(place);
            }
            back[man] = AWAY_FOR_GOOD;
        }

        void takeSnuff(int man) {
            int place = placeOf(man);
            if (place <= 0) {
                return;
            }
            order[place] = order[place - 1];
            order[place - 1] = man;
            snuffs++;
        }
    }

    /** How a bench stood ahead of each of the latest ACTS. */
    private static final class Acts {
        private static final int MOST_ACTS = 24;
        private static final int HOUR = 0, SNUFF = 1, JUNE = 2, SITTING = 3;
        private static final int ORDER = 4, WARM = ORDER + MOST_MEN, BACK = WARM + MOST_MEN;

        private final int[][] pages = new int[MOST_ACTS][BACK + MOST_MEN];
        // The page for the next act; those before it, round the end, are the acts that are kept.
        private int next = 0;
        int kept = 0;

        void clear() {
            kept = 0;
        }

        void keep(Bench bench) {
            int[] page = pages[next];
            page[HOUR] = bench.hour;
            page[SNUFF] = bench.snuffs;
            page[JUNE] = bench.isJune ? 1 : 0;
            page[SITTING] = bench.sitting;
            System.arraycopy(bench.order, 0, page, ORDER, MOST_MEN);
            System.arraycopy(bench.warm, 0, page, WARM, MOST_MEN);
            System.arraycopy(bench.back, 0, page, BACK, MOST_MEN);
            next = (next + 1) % MOST_ACTS;
            kept = Math.min(kept + 1, MOST_ACTS);
        }

        void takeBack(Bench bench) {
            if (kept == 0) {
                return;
            }
            kept--;
            next = (next + MOST_ACTS - 1) % MOST_ACTS;
            int[] page = pages[next];
            bench.hour = page[HOUR];
            bench.snuffs = page[SNUFF];
            bench.isJune = page[JUNE] == 1;
            bench.sitting = page[SITTING];
            System.arraycopy(page, ORDER, bench.order, 0, MOST_MEN);
            System.arraycopy(page, WARM, bench.warm, 0, MOST_MEN);
            System.arraycopy(page, BACK, bench.back, 0, MOST_MEN);
        }
    }

    /** The tree of KINDS. */
    private static final class Kinds {
        static final int MAN = 0, SITTER = 1, NAPPER = 2, ADMIRAL = 3, BORE = 4, DOCTOR = 5, KINDS = 6;
        private static final int[] NEAREST = {MAN, MAN, SITTER, SITTER, MAN, BORE};

        private Kinds() {
        }

        /** The KIND that one of a KIND is, too; a MAN is no more than that. */
        static int nearest(int kind) {
            return outside(kind, MAN, DOCTOR) ? MAN : NEAREST[kind];
        }

        static boolean isOne(int kind, int of) {
            int is = kind;
            for (int up = 0; up < KINDS && is != of; up++) {
                is = nearest(is);
            }
            return is == of;
        }
    }

    /** The BODIES by which ASKS are answered, and THE TRACE that they leave. */
    private static final class Asks {
        private static final int ASK_SIZE = 0, ASK_MARK = 1;
        private static final int MOST_TRACED = 16, DEEPEST = 40, UNTOLD = 0;
        // The BODY told for each KIND; that of MAN is the one that is lent.
        private static final int[] SIZE_BODIES = {10, 11, 12, UNTOLD, 13, 14};
        private static final int[] MARK_BODIES = {20, 21, 24, 22, 23, UNTOLD};

        final int[] bodies = new int[MOST_TRACED];
        int left = 0;

        int begin(Bench bench, int man, int what) {
            left = 0;
            return answer(bench, man, what, 0);
        }

        private int answer(Bench bench, int man, int what, int depth) {
            int kind = bench.kinds[man];
            int[] told = what == ASK_SIZE ? SIZE_BODIES : MARK_BODIES;
            for (int up = 0; up < Kinds.KINDS && told[kind] == UNTOLD; up++) {
                kind = Kinds.nearest(kind);
            }
            return give(bench, man, told[kind], depth + 1);
        }

        private int give(Bench bench, int man, int body, int depth) {
            if (depth > DEEPEST) {
                return 0;
            }
            leaveInTrace(body);
            int deeper = depth + 1;
            switch (body) {
                case 10: return bench.warm[man];
                case 11: return give(bench, man, 10, deeper) + answer(bench, man, ASK_MARK, deeper);
                case 12: return 0 - give(bench, man, 11, deeper);
                case 13: return give(bench, man, 10, deeper) - 100;
                case 14: return give(bench, man, 13, deeper) * 2;
                case 20: return man;
                case 21: return give(bench, man, 20, deeper) + bench.dinners[man];
                case 22: return give(bench, man, 21, deeper) - 1000;
                case 23: return give(bench, man, 20, deeper) - answer(bench, man, ASK_SIZE, deeper);
                case 24: return give(bench, man, 21, deeper) * 2;
                default: return 0;
            }
        }

        private void leaveInTrace(int body) {
            if (left < MOST_TRACED) {
                bodies[left] = body;
                left++;
            }
        }
    }
}
