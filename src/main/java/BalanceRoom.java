/**
 * A balance room: weights calibrated from one master through weighings of sums, by least squares,
 * exactly. The numbered promises that it keeps stand in the project's document.
 *
 * All rows are made once, in the constructor: no call makes an object.
 */
public final class BalanceRoom {
    public static final int UNKNOWN = -1, OUTSIDE = -2, STATE = -3, FULL = -4, NONE = -9;

    private static final int MOST_LETTERS = 90;
    private static final int MOST_WEIGHTS = 4;
    private static final int MOST_WEIGHINGS = 8;
    private static final int MOST_MASTER = 99;
    private static final int MOST_READING = 999;
    private static final int MOST_ACTS = 14;
    private static final int MOST_DOINGS = 4;
    private static final int MOST_DRAWS = 20;
    private static final int TENTHS = 10;
    private static final int SLOTS = 2;
    private static final int READING_SHIFT = 1000;
    private static final int HEAD_LETTERS = 4;
    private static final int DOING_BOUND = 10000;
    private static final long SEED_FACTOR = 6364136223846793005L;
    private static final long SEED_STEP = 1442695040888963407L;
    private static final int[] FACTORIALS = {1, 1, 2, 6, 24, 120, 720, 5040, 40320};

    private final Text text = new Text();
    private final Room here = new Room();
    /** What is only tried (a swap, told doings, drawn readings) is tried on this one. */
    private final Room trial = new Room();
    private final Acts acts = new Acts();
    private final Room[] slots = new Room[SLOTS];
    private final boolean[] filled = new boolean[SLOTS];
    private final Fit fit = new Fit();
    private final Ranks ranks = new Ranks();
    private long seedNow = 0L;

    public BalanceRoom() {
        for (int slot = 0; slot < SLOTS; slot++) {
            slots[slot] = new Room();
        }
    }

    // ---- the room

    public int write(int letter) {
        if (letter < 0 || letter > 255) {
            return OUTSIDE;
        }
        if (text.length >= MOST_LETTERS) {
            return FULL;
        }
        text.letters[text.length] = letter;
        text.length++;
        return text.length;
    }

    public int wipe() {
        int was = text.length;
        text.length = 0;
        return was;
    }

    public int fault() {
        return text.faultPlace();
    }

    public int room() {
        if (text.faultPlace() != NONE) {
            return STATE;
        }
        here.takeFrom(text);
        acts.forgetAll();
        for (int slot = 0; slot < SLOTS; slot++) {
            filled[slot] = false;
        }
        return here.weighings;
    }

    public int code(int weighing) {
        return here.has(weighing) ? here.codes[weighing] : UNKNOWN;
    }

    public int reading(int weighing) {
        return here.has(weighing) ? here.readings[weighing] + READING_SHIFT : UNKNOWN;
    }

    // ---- acts

    public int weigh(int code, int reading) {
        if (!isCode(code, here.weights) || !isReading(reading)) {
            return OUTSIDE;
        }
        if (here.weighings >= MOST_WEIGHINGS) {
            return FULL;
        }
        acts.remember(here);
        here.append(code, reading);
        return here.weighings;
    }

    public int take(int weighing) {
        if (!here.has(weighing)) {
            return UNKNOWN;
        }
        acts.remember(here);
        here.remove(weighing);
        return here.weighings;
    }

    public int swap(int one, int other) {
        if (!here.has(one) || !here.has(other)) {
            return UNKNOWN;
        }
        if (one == other) {
            return STATE;
        }
        acts.remember(here);
        here.exchange(one, other);
        return here.codes[one];
    }

    public int read(int weighing, int reading) {
        if (!here.has(weighing)) {
            return UNKNOWN;
        }
        if (!isReading(reading)) {
            return OUTSIDE;
        }
        acts.remember(here);
        int was = here.readings[weighing];
        here.readings[weighing] = reading;
        return was + READING_SHIFT;
    }

    public int master(int m) {
        if (m < 0 || m > MOST_MASTER) {
            return OUTSIDE;
        }
        acts.remember(here);
        int was = here.masterValue;
        here.masterValue = m;
        return was;
    }

    public int undo() {
        if (acts.size == 0) {
            return STATE;
        }
        acts.takeBack(here);
        return acts.size;
    }

    // ---- asked

    public int rank(boolean drift) {
        return ranks.ofAll(here, drift);
    }

    public long value(int weight, boolean drift, boolean upper) {
        if (!here.hasUnknown(weight, drift)) {
            return UNKNOWN;
        }
        if (!fit.solves(here, drift)) {
            return STATE;
        }
        return told(fit.valueAbove(weight), fit.below, upper);
    }

    public long spread(int weight, boolean drift, boolean upper) {
        if (!here.hasUnknown(weight, drift)) {
            return UNKNOWN;
        }
        if (!fit.solves(here, drift)) {
            return STATE;
        }
        return told(fit.spreadAbove(weight), fit.below, upper);
    }

    public long total(boolean drift, boolean upper) {
        if (!fit.solves(here, drift)) {
            return STATE;
        }
        return told(fit.totalAbove(), fit.below, upper);
    }

    public long rest(int weighing, boolean drift, boolean upper) {
        if (!here.has(weighing)) {
            return UNKNOWN;
        }
        if (!fit.solves(here, drift)) {
            return STATE;
        }
        return told(fit.restAbove(here, weighing), fit.below, upper);
    }

    public long squares(boolean drift, boolean upper) {
        if (!fit.solves(here, drift)) {
            return STATE;
        }
        return told(fit.squaresAbove(), fit.below, upper);
    }

    public int next(boolean drift) {
        if (here.weighings >= MOST_WEIGHINGS) {
            return FULL;
        }
        trial.copy(here);
        trial.append(0, 0);
        int added = trial.weighings - 1;
        // The master's pan changes no spread, so the least of like codes has nothing on it.
        int bound = power(3, here.weights);
        int best = NONE;
        long bestAbove = 0;
        long bestBelow = 1;
        fit.gather(here, drift);
        for (int number = 0; number < bound; number++) {
            trial.codes[added] = numbered(number, here.weights);
            if (fit.solvesWith(trial, added)
                    && (best == NONE || isLess(fit.totalAbove(), fit.below, bestAbove, bestBelow))) {
                best = trial.codes[added];
                bestAbove = fit.totalAbove();
                bestBelow = fit.below;
            }
        }
        return best;
    }

    public int better() {
        if (!fit.solves(here, true)) {
            return STATE;
        }
        int best = NONE;
        long bestAbove = fit.totalAbove();
        long bestBelow = fit.below;
        for (int one = 0; one < here.weighings; one++) {
            for (int other = one + 1; other < here.weighings; other++) {
                trial.copy(here);
                trial.exchange(one, other);
                if (fit.solves(trial, true)
                        && isLess(fit.totalAbove(), fit.below, bestAbove, bestBelow)) {
                    best = 10 * one + other;
                    bestAbove = fit.totalAbove();
                    bestBelow = fit.below;
                }
            }
        }
        return best;
    }

    public int doubtful(boolean drift) {
        return fit.mostDoubtful(here, drift);
    }

    public int wrong(boolean drift) {
        return fit.thoseAlone(here, drift);
    }

    public int judge(int n, long row) {
        if (n < 1 || n > MOST_DOINGS || row < 0) {
            return OUTSIDE;
        }
        long unit = 1;
        for (int place = 1; place < n; place++) {
            unit *= DOING_BOUND;
        }
        if (row / unit >= DOING_BOUND) {
            return OUTSIDE;
        }
        trial.copy(here);
        for (int place = 0; place < n && unit > 0; place++) {
            if (!holds((int) (row / unit % DOING_BOUND))) {
                return place;
            }
            unit /= DOING_BOUND;
        }
        return NONE;
    }

    // ---- shares, chances

    public int share(int weighing, boolean drift, boolean upper) {
        if (!here.has(weighing)) {
            return UNKNOWN;
        }
        ranks.ofEach(here, drift);
        int many = here.weighings;
        int bit = 1 << weighing;
        long above = 0;
        for (int set = 0; set < (1 << many); set++) {
            if ((set & bit) == 0 && ranks.ofSet[set | bit] > ranks.ofSet[set]) {
                int ahead = Integer.bitCount(set);
                above += (long) FACTORIALS[ahead] * FACTORIALS[many - 1 - ahead];
            }
        }
        return (int) told(above, FACTORIALS[many], upper);
    }

    public int lost(int x, boolean drift, boolean upper) {
        if (x < 0 || x > TENTHS) {
            return OUTSIDE;
        }
        ranks.ofEach(here, drift);
        int many = here.weighings;
        int full = here.unknowns(drift);
        long above = 0;
        for (int set = 0; set < (1 << many); set++) {
            if (ranks.ofSet[set] == full) {
                int left = Integer.bitCount(set);
                above += (long) power(TENTHS - x, left) * power(x, many - left);
            }
        }
        return (int) told(above, power(TENTHS, many), upper);
    }

    public long seed(long v) {
        long was = seedNow;
        seedNow = v;
        return was;
    }

    public int drawn(int m) {
        if (m < 1 || m > MOST_DRAWS) {
            return OUTSIDE;
        }
        int due = fit.mostDoubtful(here, false);
        int times = 0;
        trial.copy(here);
        for (int draw = 0; draw < m; draw++) {
            seedNow = seedNow * SEED_FACTOR + SEED_STEP;
            drawReadings((int) (seedNow >>> 33));
            if (fit.mostDoubtful(trial, false) == due) {
                times++;
            }
        }
        return times;
    }

    // ---- places to keep in

    public int keep(int slot) {
        if (slot < 0 || slot >= SLOTS) {
            return UNKNOWN;
        }
        slots[slot].copy(here);
        filled[slot] = true;
        return here.weighings;
    }

    public int again(int slot) {
        if (slot < 0 || slot >= SLOTS) {
            return UNKNOWN;
        }
        if (!filled[slot]) {
            return STATE;
        }
        here.copy(slots[slot]);
        acts.forgetAll();
        return here.weighings;
    }

    public int count(int what) {
        switch (what) {
            case 0:
                return text.length;
            case 1:
                return here.weights;
            case 2:
                return here.masterValue;
            case 3:
                return here.weighings;
            case 4:
                return acts.size;
            default:
                return OUTSIDE;
        }
    }

    /** Does one told doing (four figures) on the trial room, or asks it: whether it can be, or is so. */
    private boolean holds(int doing) {
        int first = doing / 100 % 10;
        int second = doing / 10 % 10;
        int third = doing % 10;
        int lastTwo = doing % 100;
        switch (doing / 1000) {
            case 1:
                return third == 0 && exchanged(first, second);
            case 2:
                return lastTwo == 0 && removed(first);
            case 3:
                return first < trial.weights && fit.solves(trial, false)
                        && fit.valueAbove(first) == lastTwo * fit.below;
            case 4:
                return lastTwo == 0 && ranks.ofAll(trial, false) == first;
            case 5:
                return lastTwo == 0 && fit.mostDoubtful(trial, false) == first;
            case 6:
                return first == 0 && masterSet(lastTwo);
            default:
                return false;
        }
    }

    private boolean exchanged(int one, int other) {
        if (!trial.has(one) || !trial.has(other) || one == other) {
            return false;
        }
        trial.exchange(one, other);
        return true;
    }

    private boolean removed(int weighing) {
        if (!trial.has(weighing)) {
            return false;
        }
        trial.remove(weighing);
        return true;
    }

    private boolean masterSet(int m) {
        trial.masterValue = m;
        return true;
    }

    /** Readings of the trial room by one drawn number: two bits a weighing. */
    private void drawReadings(int drawnBits) {
        for (int t = 0; t < here.weighings; t++) {
            int more = ((drawnBits >> (2 * t)) & 3) - 1;
            trial.readings[t] = here.readings[t] + (more == 2 ? 0 : more);
        }
    }

    private static boolean isReading(int reading) {
        return reading >= -MOST_READING && reading <= MOST_READING;
    }

    private static boolean isCode(int code, int weights) {
        int left = code;
        for (int pan = 0; pan <= weights; pan++) {
            if (left < 0 || left % 10 > 2) {
                return false;
            }
            left /= 10;
        }
        return left == 0;
    }

    /** The code, nothing being on the master's pan, that is the number-th one. */
    private static int numbered(int number, int weights) {
        int code = 0;
        int unit = 1;
        int left = number;
        for (int weight = 0; weight < weights; weight++) {
            code += left % 3 * unit;
            left /= 3;
            unit *= 10;
        }
        return code;
    }

    private static int power(int base, int exponent) {
        int product = 1;
        for (int factor = 0; factor < exponent; factor++) {
            product *= base;
        }
        return product;
    }

    /** Whether one fraction is less than another, both being above 0 below the stroke. */
    private static boolean isLess(long above, long below, long otherAbove, long otherBelow) {
        // The greatest such product is of squares with drift: below 4E18, so it fits.
        return above * otherBelow < otherAbove * below;
    }

    /** One side of a fraction in least terms. */
    private static long told(long above, long below, boolean upper) {
        long common = commonDivisor(Math.abs(above), below);
        if (common == 0) {
            return 0;
        }
        return (upper ? above : below) / common;
    }

    private static long commonDivisor(long one, long other) {
        long greater = one;
        long less = other;
        // Each two steps halve the number: 130 are enough for any long.
        for (int step = 0; step < 130 && less != 0; step++) {
            long left = greater % less;
            greater = less;
            less = left;
        }
        return greater;
    }

    /** The text, and where it is no room. */
    private static final class Text {
        final int[] letters = new int[MOST_LETTERS];
        int length = 0;

        int faultPlace() {
            for (int place = 0; place < length; place++) {
                if (!fits(place)) {
                    return place;
                }
            }
            boolean ended = length >= HEAD_LETTERS && (length - HEAD_LETTERS) % lettersEach() == 0;
            return ended ? NONE : length;
        }

        /** Whether the letter at a place may stand there, all letters ahead of it being as they may. */
        private boolean fits(int place) {
            int letter = letters[place];
            if (place == 0) {
                return letter == 'B';
            }
            if (place == 1) {
                return letter >= '1' && letter <= '0' + MOST_WEIGHTS;
            }
            if (place < HEAD_LETTERS) {
                return isFigure(letter);
            }
            int behindHead = place - HEAD_LETTERS;
            int inside = behindHead % lettersEach();
            if (inside == 0) {
                return letter == 'w' && behindHead / lettersEach() < MOST_WEIGHINGS;
            }
            if (inside <= weightsTold() + 1) {
                return letter == '0' || isSign(letter);
            }
            return inside == weightsTold() + 2 ? isSign(letter) : isFigure(letter);
        }

        private static boolean isFigure(int letter) {
            return letter >= '0' && letter <= '9';
        }

        private static boolean isSign(int letter) {
            return letter == '+' || letter == '-';
        }

        int weightsTold() {
            int told = letters[1] - '0';
            return told < 1 || told > MOST_WEIGHTS ? 1 : told;
        }

        /** How many letters tell a weighing: w, pans, a sign, three figures. */
        int lettersEach() {
            return weightsTold() + 6;
        }

        int weighingsTold() {
            return (length - HEAD_LETTERS) / lettersEach();
        }

        int masterTold() {
            return 10 * figureAt(2) + figureAt(3);
        }

        int codeTold(int weighing) {
            int start = startOf(weighing) + 1;
            int code = 0;
            for (int pan = 0; pan <= weightsTold(); pan++) {
                int letter = letters[start + pan];
                code = 10 * code + (letter == '+' ? 1 : letter == '-' ? 2 : 0);
            }
            return code;
        }

        int readingTold(int weighing) {
            int sign = startOf(weighing) + weightsTold() + 2;
            int size = 100 * figureAt(sign + 1) + 10 * figureAt(sign + 2) + figureAt(sign + 3);
            return letters[sign] == '-' ? -size : size;
        }

        private int startOf(int weighing) {
            return HEAD_LETTERS + weighing * lettersEach();
        }

        private int figureAt(int place) {
            return letters[place] - '0';
        }
    }

    /** Weights, the master and weighings as they stand, or stood, or are tried. */
    private static final class Room {
        int weights = 1;
        int masterValue = 0;
        int weighings = 0;
        final int[] codes = new int[MOST_WEIGHINGS];
        final int[] readings = new int[MOST_WEIGHINGS];

        void copy(Room from) {
            weights = from.weights;
            masterValue = from.masterValue;
            weighings = from.weighings;
            System.arraycopy(from.codes, 0, codes, 0, MOST_WEIGHINGS);
            System.arraycopy(from.readings, 0, readings, 0, MOST_WEIGHINGS);
        }

        /** The text must have no fault. */
        void takeFrom(Text text) {
            weights = text.weightsTold();
            masterValue = text.masterTold();
            weighings = Math.min(text.weighingsTold(), MOST_WEIGHINGS);
            for (int t = 0; t < weighings; t++) {
                codes[t] = text.codeTold(t);
                readings[t] = text.readingTold(t);
            }
        }

        boolean has(int weighing) {
            return weighing >= 0 && weighing < weighings;
        }

        /** How many numbers least squares looks for. */
        int unknowns(boolean drift) {
            return drift ? weights + 1 : weights;
        }

        boolean hasUnknown(int weight, boolean drift) {
            return weight >= 0 && weight < unknowns(drift);
        }

        void append(int code, int reading) {
            if (weighings < MOST_WEIGHINGS) {
                codes[weighings] = code;
                readings[weighings] = reading;
                weighings++;
            }
        }

        void remove(int weighing) {
            for (int t = weighing; t + 1 < weighings; t++) {
                codes[t] = codes[t + 1];
                readings[t] = readings[t + 1];
            }
            weighings--;
        }

        void exchange(int one, int other) {
            int code = codes[one];
            int reading = readings[one];
            codes[one] = codes[other];
            readings[one] = readings[other];
            codes[other] = code;
            readings[other] = reading;
        }

        /**
         * Lays a weighing out: a sign for each weight, its number t (with drift), and behind them
         * its reading less the master.
         */
        void layOut(int weighing, boolean drift, long[] line) {
            int left = codes[weighing];
            for (int weight = weights - 1; weight >= 0; weight--) {
                line[weight] = signOf(left % 10);
                left /= 10;
            }
            if (drift) {
                line[weights] = weighing;
            }
            line[unknowns(drift)] = readings[weighing] - signOf(left) * masterValue;
        }

        private static int signOf(int pan) {
            return pan == 2 ? -1 : pan;
        }
    }

    /** The row of acts: for each of them the room as it was ahead of it. */
    private static final class Acts {
        final Room[] before = new Room[MOST_ACTS];
        int oldest = 0;
        int size = 0;

        Acts() {
            for (int act = 0; act < MOST_ACTS; act++) {
                before[act] = new Room();
            }
        }

        void remember(Room room) {
            if (size == MOST_ACTS) {
                oldest = (oldest + 1) % MOST_ACTS;
                size--;
            }
            before[(oldest + size) % MOST_ACTS].copy(room);
            size++;
        }

        void takeBack(Room room) {
            if (size > 0) {
                size--;
                room.copy(before[(oldest + size) % MOST_ACTS]);
            }
        }

        void forgetAll() {
            size = 0;
        }
    }

    /** How many columns, over some of the weighings, are not sums of multiples of others. */
    private static final class Ranks {
        /** Laid out weighings, each reduced by those ahead of it, that span what has come. */
        final long[][] basis = new long[MOST_WEIGHTS + 1][MOST_WEIGHTS + 2];
        final int[] leads = new int[MOST_WEIGHTS + 1];
        /** By a set of weighings (bits). */
        final int[] ofSet = new int[1 << MOST_WEIGHINGS];

        int ofAll(Room room, boolean drift) {
            int rank = 0;
            for (int t = 0; t < room.weighings; t++) {
                rank = extended(rank, room, t, drift);
            }
            return rank;
        }

        /** Fills ofSet for all sets of the room's weighings. */
        void ofEach(Room room, boolean drift) {
            ofSet[0] = 0;
            for (int set = 1; set < (1 << room.weighings); set++) {
                // All sets since the one without the lowest bit held that one: its basis still stands.
                int without = set & (set - 1);
                int lowest = Integer.bitCount((set ^ without) - 1);
                ofSet[set] = extended(ofSet[without], room, lowest, drift);
            }
        }

        /** The rank when one weighing more has come to a basis of so many lines. */
        private int extended(int rank, Room room, int weighing, boolean drift) {
            int columns = room.unknowns(drift);
            if (rank >= columns) {
                return rank;
            }
            long[] line = basis[rank];
            room.layOut(weighing, drift, line);
            // From 7 on, four reductions square and double the greatest: below 2E18, so it fits.
            for (int known = 0; known < rank; known++) {
                reduce(line, basis[known], leads[known], columns);
            }
            for (int column = 0; column < columns; column++) {
                if (line[column] != 0) {
                    leads[rank] = column;
                    return rank + 1;
                }
            }
            return rank;
        }

        private static void reduce(long[] line, long[] by, int lead, int columns) {
            long factor = line[lead];
            if (factor == 0) {
                return;
            }
            long pivot = by[lead];
            for (int column = 0; column < columns; column++) {
                line[column] = line[column] * pivot - by[column] * factor;
            }
        }
    }

    /**
     * Least squares by sweeping the table of sums of products of columns, bordered by what is read
     * (the reading less the master). All numbers stay whole: they are minors of that table, over
     * one number below that they share.
     */
    private static final class Fit {
        final long[][] sums = new long[MOST_WEIGHTS + 2][MOST_WEIGHTS + 2];
        final long[][] swept = new long[MOST_WEIGHTS + 2][MOST_WEIGHTS + 2];
        final long[] line = new long[MOST_WEIGHTS + 2];
        boolean withDrift = false;
        int weightsHere = 1;
        int unknownsHere = 1;
        /** What all fractions of the last solution have below. */
        long below = 1;

        /** Solves for a room; false: it is not determined. */
        boolean solves(Room room, boolean drift) {
            gather(room, drift);
            return sweepAll(true);
        }

        /** Solves what was gathered with one weighing more. */
        boolean solvesWith(Room room, int weighing) {
            put(room, weighing, 1);
            boolean solved = sweepAll(true);
            put(room, weighing, -1);
            return solved;
        }

        /** Of what was gathered without a weighing: its squares alone. */
        private boolean solvesWithout(Room room, int weighing) {
            put(room, weighing, -1);
            boolean solved = sweepAll(false);
            put(room, weighing, 1);
            return solved;
        }

        void gather(Room room, boolean drift) {
            withDrift = drift;
            weightsHere = room.weights;
            unknownsHere = room.unknowns(drift);
            for (int row = 0; row <= unknownsHere; row++) {
                for (int column = 0; column <= unknownsHere; column++) {
                    sums[row][column] = 0;
                }
            }
            for (int t = 0; t < room.weighings; t++) {
                put(room, t, 1);
            }
        }

        private void put(Room room, int weighing, int times) {
            room.layOut(weighing, withDrift, line);
            for (int row = 0; row <= unknownsHere; row++) {
                long factor = times * line[row];
                for (int column = row; factor != 0 && column <= unknownsHere; column++) {
                    sums[row][column] += factor * line[column];
                }
            }
        }

        /** Only squares are right when it is not whole, at less work. */
        private boolean sweepAll(boolean whole) {
            for (int row = 0; row <= unknownsHere; row++) {
                System.arraycopy(sums[row], row, swept[row], row, unknownsHere + 1 - row);
            }
            below = 1;
            for (int pivot = 0; pivot < unknownsHere; pivot++) {
                // Minors of such a table are never less than 0; one that is 0 makes the last one 0.
                if (swept[pivot][pivot] <= 0) {
                    return false;
                }
                sweep(pivot, whole ? 0 : pivot + 1);
            }
            return true;
        }

        /** Only places whose column is not less than the row are kept: the table is symmetric. */
        private void sweep(int pivot, int firstRow) {
            long over = swept[pivot][pivot];
            for (int row = firstRow; row <= unknownsHere; row++) {
                if (row != pivot) {
                    sweepRow(row, pivot, over);
                }
            }
            swept[pivot][pivot] = -below;
            below = over;
        }

        private void sweepRow(int row, int pivot, long over) {
            long factor = row < pivot ? swept[row][pivot] : swept[pivot][row];
            for (int column = row; below != 0 && column <= unknownsHere; column++) {
                if (column != pivot) {
                    long other = column < pivot ? swept[column][pivot] : swept[pivot][column];
                    swept[row][column] = (swept[row][column] * over - factor * other) / below;
                }
            }
        }

        long valueAbove(int unknown) {
            return swept[unknown][unknownsHere];
        }

        long spreadAbove(int unknown) {
            return -swept[unknown][unknown];
        }

        long totalAbove() {
            long sum = 0;
            for (int weight = 0; weight < weightsHere; weight++) {
                sum += spreadAbove(weight);
            }
            return sum;
        }

        long restAbove(Room room, int weighing) {
            room.layOut(weighing, withDrift, line);
            long left = line[unknownsHere] * below;
            for (int unknown = 0; unknown < unknownsHere; unknown++) {
                left -= line[unknown] * valueAbove(unknown);
            }
            return left;
        }

        long squaresAbove() {
            return swept[unknownsHere][unknownsHere];
        }

        int mostDoubtful(Room room, boolean drift) {
            gather(room, drift);
            int best = NONE;
            long bestAbove = 0;
            long bestBelow = 1;
            for (int t = 0; t < room.weighings; t++) {
                if (solvesWithout(room, t)
                        && (best == NONE || isLess(squaresAbove(), below, bestAbove, bestBelow))) {
                    best = t;
                    bestAbove = squaresAbove();
                    bestBelow = below;
                }
            }
            return best;
        }

        /** Those weighings (bits) without which nothing is left over. */
        int thoseAlone(Room room, boolean drift) {
            gather(room, drift);
            int bits = 0;
            for (int t = 0; t < room.weighings; t++) {
                if (solvesWithout(room, t) && squaresAbove() == 0) {
                    bits |= 1 << t;
                }
            }
            return bits;
        }
    }
}
