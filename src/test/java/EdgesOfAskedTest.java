import java.util.Random;

/** Edges of what is asked: parts 2 and 4 of the terms, promises 14 to 24; reckoned by hand, or by doing what is asked. */
public final class EdgesOfAskedTest {
    private static final int UNKNOWN = Check.UNKNOWN, OUTSIDE = Check.OUTSIDE, STATE = Check.STATE, FULL = Check.FULL;
    private static final int NONE = Check.NONE;
    private static final int[] NO_PLACES = {-1, 8, 9, Check.LEAST, Check.MOST};

    private static void value(String what, BalanceRoom x, int weight, boolean drift, long above, long below) {
        Check.fraction(what, x.value(weight, drift, true), x.value(weight, drift, false), above, below);
    }

    private static void spread(String what, BalanceRoom x, int weight, boolean drift, long above, long below) {
        Check.fraction(what, x.spread(weight, drift, true), x.spread(weight, drift, false), above, below);
    }

    private static void total(String what, BalanceRoom x, boolean drift, long above, long below) {
        Check.fraction(what, x.total(drift, true), x.total(drift, false), above, below);
    }

    private static void rest(String what, BalanceRoom x, int weighing, boolean drift, long above, long below) {
        Check.fraction(what, x.rest(weighing, drift, true), x.rest(weighing, drift, false), above, below);
    }

    private static void squares(String what, BalanceRoom x, boolean drift, long above, long below) {
        Check.fraction(what, x.squares(drift, true), x.squares(drift, false), above, below);
    }

    // ---- least squares

    /** At the least sum what is left over is upright to each column. */
    private static void leastSum() throws Exception {
        Check.says("by which the sum over all WEIGHINGS t of the square of (READING t, less sm M, less the sum of si Wi) is least");
        String[] texts = {"B107w-+-002w-++003w-++009", "B210w++0+030w0+++050w0+-+001w-0+-007",
            "B399w-++-+999w+-+0-999w-0+++500w+0++-999w0-0-+111", "B450w+-0+0+012w-+-00-100w0-+-++200w+++--+003w0-0-0-045w000++-031"};
        for (String text : texts) {
            BalanceRoom x = Check.roomOf(text);
            for (boolean drift : new boolean[] {false, true}) {
                int unknowns = x.count(1) + (drift ? 1 : 0);
                Check.due("determined", x.rank(drift), unknowns);
                Fraction sum = Fraction.ZERO;
                Fraction[] upright = new Fraction[unknowns];
                for (int i = 0; i < unknowns; i++) upright[i] = Fraction.ZERO;
                for (int t = 0; t < x.count(3); t++) {
                    Fraction left = Fraction.of(x.rest(t, drift, true), x.rest(t, drift, false));
                    sum = sum.plus(left.times(left));
                    for (int i = 0; i < unknowns; i++) upright[i] = upright[i].plus(left.times(Fraction.of(column(x, t, i))));
                }
                for (int i = 0; i < unknowns; i++) Check.due(text + ", column " + i, upright[i].isZero() ? 0 : 1, 0);
                squares(text + ": the sum of the squares", x, drift, sum.side(true), sum.side(false));
            }
        }
    }

    private static int column(BalanceRoom x, int t, int unknown) {
        if (unknown == x.count(1)) return t;
        int figure = x.code(t) / (int) Math.pow(10, x.count(1) - 1 - unknown) % 10;
        return figure == 2 ? -1 : figure;
    }

    private static void masterOfEachSign() throws Exception {
        Check.says("si being 1, -1, 0 as the PAN is plus, minus, none (sm that of THE MASTER)");
        value("the master plus", Check.roomOf("B199w++-999"), 0, false, -1098, 1);
        value("the master minus", Check.roomOf("B199w-++999"), 0, false, 1098, 1);
        value("no master", Check.roomOf("B199w0++999"), 0, false, 999, 1);
        value("the weight minus", Check.roomOf("B199w+--999"), 0, false, 1098, 1);
        value("a master of 0", Check.roomOf("B100w++-999"), 0, false, -999, 1);
    }

    private static void driftTimesNumber() throws Exception {
        Check.says("With DRIFT: there is one more number, D, and t D is taken off, too (t the number of the WEIGHING).");
        BalanceRoom x = Check.roomOf("B100w0++010w0++013w0++016w0++019w0++022w0++025w0++028w0++031");
        value("the weight", x, 0, true, 10, 1);
        value("the drift", x, 1, true, 3, 1);
        for (int t = 0; t < 8; t++) rest("nothing is left over", x, t, true, 0, 1);
        rest("without drift there is", x, 7, false, 21, 2);
    }

    private static void firstNumberIsNought() throws Exception {
        Check.says("t of the first WEIGHING is 0.");
        value("its drift is none", Check.roomOf("B100w0++010w0++013"), 0, true, 10, 1);
        Check.due("t of one alone is a column of noughts", Check.roomOf("B100w0++010").rank(true), 1);
        spread("the first tells the weight by itself", Check.roomOf("B100w0++010w00+013"), 0, true, 1, 1);
    }

    // ---- rank, determined

    private static void rankOfColumns() throws Exception {
        Check.says("RANK: how many of the columns si (and t, with DRIFT) over all WEIGHINGS are not sums of multiples of others");
        BalanceRoom x = Check.roomOf("B200w000+000w0+0+000w0+++000");
        Check.due("two columns", x.rank(false), 2);
        Check.due("t is the sum of both", x.rank(true), 2);
        Check.due("like columns", Check.roomOf("B400w0++++-001w0-----001w00000+001").rank(false), 1);
        Check.due("one is minus another", Check.roomOf("B200w0+-+001w0-++001").rank(false), 1);
        Check.due("a column of noughts", Check.roomOf("B200w0+0+001w0-0+001").rank(false), 1);
        Check.due("the master is no column", Check.roomOf("B250w+00+001w-00+001").rank(false), 0);
        Check.due("but t is", Check.roomOf("B250w+00+001w-00+001").rank(true), 1);
        Check.due("never more than N", Check.roomOf("B1" + "00" + "w0++001w0-+005".repeat(4)).rank(false), 1);
        Check.due("never more than N and 1", Check.roomOf("B1" + "00" + "w0++001w0-+005".repeat(4)).rank(true), 2);
        Check.due("four and t", Check.roomOf("B400w0+000+001w00+00+001w000+0+001w0000++001w00000+001").rank(true), 5);
        Check.due("the sum of the four is t at 1 alone",
                Check.roomOf("B400w00000+001w0+000+001w00000+001w00000+001").rank(true), 2);
    }

    private static void rankWithoutWeighings() throws Exception {
        Check.says("RANK without WEIGHINGS is 0.");
        for (int n = 1; n <= 4; n++) {
            Check.due("N " + n, Check.roomOf("B" + n + "99").rank(false), 0);
            Check.due("N " + n + " with drift", Check.roomOf("B" + n + "99").rank(true), 0);
        }
        BalanceRoom x = Check.roomOf("B100w0++001");
        x.take(0);
        Check.due("all taken", x.rank(false), 0);
    }

    /** All rooms of two weights and up to three weighings. */
    private static void determinedJustThen() throws Exception {
        Check.says("DETERMINED: RANK is N (N and 1 with DRIFT): just then LEAST SQUARES has one solution.");
        String[] pans = {"w000+003", "w00+-004", "w00-+005", "w0+0-006", "w0+++007", "w0+--008", "w0-0+009", "w0-+-010", "w0--+011"};
        for (int rows = 0; rows < 1000; rows++) {
            StringBuilder text = new StringBuilder("B204");
            for (int left = rows; left > 0; left /= 10) if (left % 10 > 0) text.append(pans[left % 10 - 1]);
            BalanceRoom x = Check.roomOf(text.toString());
            for (int d = 0; d < 2; d++) {
                boolean drift = d == 1;
                boolean determined = x.rank(drift) == 2 + d;
                Check.due(text + " value", x.value(1, drift, false) == STATE ? 0 : 1, determined ? 1 : 0);
                Check.due(text + " spread", x.spread(0, drift, false) == STATE ? 0 : 1, determined ? 1 : 0);
                Check.due(text + " total", x.total(drift, false) == STATE ? 0 : 1, determined ? 1 : 0);
                Check.due(text + " squares", x.squares(drift, false) == STATE ? 0 : 1, determined ? 1 : 0);
                if (x.count(3) > 0) Check.due(text + " rest", x.rest(0, drift, false) == STATE ? 0 : 1, determined ? 1 : 0);
                if (drift) Check.due(text + " better", x.better() == STATE ? 0 : 1, determined ? 1 : 0);
                Check.fraction(text + " none lost", x.lost(0, drift, true), x.lost(0, drift, false), determined ? 1 : 0, 1);
            }
        }
    }

    private static void byPansAlone() throws Exception {
        Check.says("DETERMINED is by PANS alone; READINGS do not matter.");
        for (int reading : new int[] {-999, 0, 999}) {
            BalanceRoom x = Check.roomOf("B299");
            x.weigh(12, reading);
            x.weigh(121, reading);
            Check.due("like but for the sign", x.rank(false), 1);
            Check.due("not determined", x.total(false, true), STATE);
            x.weigh(211, reading);
            total("determined: 3/8 and 3/8", x, false, 3, 4);
        }
    }

    // ---- promises 14 to 19

    private static void promise15() throws Exception {
        Check.says("VALUE (weight N: of DRIFT, with DRIFT alone). UNKNOWN; STATE: not DETERMINED.");
        for (int n = 1; n <= 4; n++) {
            BalanceRoom none = Check.roomOf("B" + n + "00");
            for (boolean upper : new boolean[] {false, true}) {
                Check.due("weight N less 1", none.value(n - 1, false, upper), STATE);
                Check.due("weight N without drift", none.value(n, false, upper), UNKNOWN);
                Check.due("weight N with drift", none.value(n, true, upper), STATE);
                Check.due("weight N and 1", none.value(n + 1, true, upper), UNKNOWN);
                for (int weight : NO_PLACES) Check.due("weight " + weight, none.value(weight, true, upper), UNKNOWN);
            }
        }
        BalanceRoom x = Check.roomOf("B100w0++010w0++007");
        value("drift", x, 1, true, -3, 1);
        Check.due("no drift without it", x.value(1, false, true), UNKNOWN);
        x.take(0);
        Check.due("drift, not determined", x.value(1, true, true), STATE);
        value("determined without", x, 0, false, 7, 1);
    }

    private static void valuesBelowNought() throws Exception {
        Check.says("VALUES may be less than 0.");
        value("a half below", Check.roomOf("B100w0+-001w0++000"), 0, false, -1, 2);
        value("far below", Check.roomOf("B199w++-999"), 0, false, -1098, 1);
        value("a sum of three", Check.roomOf("B300w0++0-999w00++-999w0+0+-999"), 1, false, -999, 2);
        value("far above", Check.roomOf("B399w-++0+999w+0++-999w-+0++999"), 0, false, 1647, 1);
    }

    private static void promise16() throws Exception {
        Check.says("SPREAD (weight N: of DRIFT, with DRIFT alone). UNKNOWN; STATE: not DETERMINED.");
        BalanceRoom x = Check.roomOf("B100w0++010w0++007");
        spread("without drift", x, 0, false, 1, 2);
        spread("with drift", x, 0, true, 1, 1);
        spread("of drift", x, 1, true, 2, 1);
        Check.due("drift without drift", x.spread(1, false, true), UNKNOWN);
        Check.due("weight 2", x.spread(2, true, true), UNKNOWN);
        for (int weight : NO_PLACES) Check.due("weight " + weight, x.spread(weight, true, false), UNKNOWN);
        x.take(1);
        Check.due("not determined", x.spread(0, true, true), STATE);
        Check.due("of drift neither", x.spread(1, true, false), STATE);
        spread("one weighing", x, 0, false, 1, 1);
        spread("eight", Check.roomOf(Check.likeOnes(1, 8, "-", "+001")), 0, false, 1, 8);
        spread("the least of drift: all eight tell it", Check.roomOf("B100" + "w0++000w0-+000".repeat(4)), 1, true, 1, 138);
    }

    /** A value is a sum of multiples of readings: each multiple is what the value gains by one more in a reading. */
    private static void spreadIsVariance() throws Exception {
        Check.says("the variance of its VALUE, if each READING has the variance 1, by itself");
        String[] texts = {"B107w-+-002w-++003w-++009", "B210w++0+030w0+++050w0+-+001w-0+-007",
            "B450w+-0+0+012w-+-00-100w0-+-++200w+++--+003w0-0-0-045w000++-031w0-00++003w+++++-888"};
        for (String text : texts) {
            for (boolean drift : new boolean[] {false, true}) {
                BalanceRoom x = Check.roomOf(text);
                for (int weight = 0; weight < x.count(1) + (drift ? 1 : 0); weight++) {
                    Fraction was = Fraction.of(x.value(weight, drift, true), x.value(weight, drift, false));
                    Fraction sum = Fraction.ZERO;
                    for (int t = 0; t < x.count(3); t++) {
                        x.read(t, x.reading(t) - 1000 + 1);
                        Fraction more = Fraction.of(x.value(weight, drift, true), x.value(weight, drift, false)).minus(was);
                        sum = sum.plus(more.times(more));
                        x.undo();
                    }
                    spread(text + ", weight " + weight, x, weight, drift, sum.side(true), sum.side(false));
                }
            }
        }
    }

    private static void promise17() throws Exception {
        Check.says("`long total(boolean drift, boolean upper)`: TOTAL. STATE: not DETERMINED.");
        Check.due("no weighings", new BalanceRoom().total(false, true), STATE);
        Check.due("no weighings, below", new BalanceRoom().total(true, false), STATE);
        BalanceRoom x = Check.roomOf("B100w0++010");
        total("one", x, false, 1, 1);
        Check.due("with drift not", x.total(true, true), STATE);
        Check.says("TOTAL with DRIFT is by the greater table, but the sum of SPREADS of WEIGHTS alone.");
        x.weigh(1, 7);
        total("without drift", x, false, 1, 2);
        total("with drift: 1, not 1 and 2", x, true, 1, 1);
        Check.says("TOTAL: the sum of SPREADS of all WEIGHTS (not of DRIFT).");
        BalanceRoom y = Check.roomOf("B400w0+000+001w00+00+001w000+0+001w0000++001");
        total("four", y, false, 4, 1);
        y.weigh(0, 0);
        // W0 is read at 0; the others take 1, 2, 3 times D off, whose spread is 1/16.
        total("four with drift: 4 and 14/16", y, true, 39, 8);
    }

    private static void promise18() throws Exception {
        Check.says("`long rest(int weighing, boolean drift, boolean upper)`: REST. UNKNOWN; STATE: not DETERMINED.");
        BalanceRoom x = Check.roomOf("B100w0++001w0++002");
        rest("the first", x, 0, false, -1, 2);
        rest("the last", x, 1, false, 1, 2);
        Check.due("weighing 2", x.rest(2, false, true), UNKNOWN);
        for (int t : NO_PLACES) Check.due("weighing " + t, x.rest(t, false, false), UNKNOWN);
        Check.due("none at all", new BalanceRoom().rest(0, false, true), UNKNOWN);
        BalanceRoom y = Check.roomOf("B200w0+0+001");
        Check.due("not determined", y.rest(0, false, true), STATE);
        Check.due("unknown", y.rest(1, false, true), UNKNOWN);
    }

    private static void nothingOnIt() throws Exception {
        Check.says("a WEIGHING with nothing on it may be (its REST is its READING, less t D)");
        BalanceRoom x = Check.roomOf("B150w0++010w00-999w+0+007");
        rest("without drift", x, 1, false, -999, 1);
        rest("the master alone", x, 2, false, -43, 1);
        BalanceRoom y = Check.roomOf("B100w0++010w0++012w0++014w00+009");
        value("drift", y, 1, true, 31, 11);
        rest("9 less 3 times that", y, 3, true, 6, 11);
        BalanceRoom first = Check.roomOf("B100w00+009w0++010w0++012");
        rest("at t 0 its reading", first, 0, true, 9, 1);
    }

    private static void promise19() throws Exception {
        Check.says("`long squares(boolean drift, boolean upper)`: SQUARES. STATE: not DETERMINED.");
        Check.due("no weighings", new BalanceRoom().squares(false, true), STATE);
        BalanceRoom x = Check.roomOf("B100w0++010");
        squares("one fits", x, false, 0, 1);
        Check.due("with drift not", x.squares(true, true), STATE);
        Check.due("with drift not, below", x.squares(true, false), STATE);
        squares("two that differ by 1", Check.roomOf("B100w0++010w0++011"), false, 1, 2);
        squares("they fit with drift", Check.roomOf("B100w0++010w0++011"), true, 0, 1);
        squares("the most: seven times 1098 twice over", Check.roomOf("B199w0++000" + "w-0+999".repeat(7)), false,
                7L * 1098 * 1098, 1);
        squares("and half of them against the other half", Check.roomOf("B199" + "w-++999w+0-999".repeat(4)), false,
                4L * 1098 * 1098, 1);
    }

    // ---- next, better

    private static void promise20next() throws Exception {
        Check.says("NEXT: the CODE (as a number) by which, one more WEIGHING with it being behind all, all is DETERMINED and TOTAL is"
                + " least");
        Check.due("both at once spread less than one more of one", Check.roomOf("B200w0+0+001w00++001").next(false), 11);
        Check.due("the one that spreads more", Check.roomOf("B200w0+0+001w0+0+001w00++001").next(false), 1);
        Check.due("two weights, none weighed", Check.roomOf("B200w000+001").next(false), NONE);
        Check.due("only what makes it determined", Check.roomOf("B200w0+-+001w0-++001").next(false), 11);
        Check.says("of like ones the least CODE");
        Check.due("1, 2, 11, 12, 21, 22", new BalanceRoom().next(false), 1);
        Check.due("1, 2, 12, 21 and 101 .. are alike", Check.roomOf("B200w0+0+001").next(false), 1);
        Check.due("weight 0 is least told by itself, as 10 or 20", Check.roomOf("B200w00++001").next(false), 10);
        Check.says("NONE: none is such.");
        for (int n = 2; n <= 4; n++) Check.due("N " + n, Check.roomOf("B" + n + "00").next(false), NONE);
        for (int n = 1; n <= 4; n++) Check.due("N " + n + " with drift", Check.roomOf("B" + n + "00").next(true), NONE);
        Check.due("two are wanting", Check.roomOf("B400w0+000+001w00+00+001").next(false), NONE);
        Check.due("one is wanting", Check.roomOf("B400w0+000+001w00+00+001w000+0+001").next(false), 1);
        Check.due("and drift, too", Check.roomOf("B400w0+000+001w00+00+001w000+0+001").next(true), NONE);
    }

    private static void promise20number() throws Exception {
        Check.says("NEXT: its number t is how many there are now.");
        Check.due("t is 0, a column of noughts", new BalanceRoom().next(true), NONE);
        Check.due("t is 1, it tells drift", Check.roomOf("B100w0++001").next(true), 0);
        Check.due("t is 3: by 2 it would be 210, by 4 211", Check.roomOf("B300w0+0++001w0+0++001w0-00+001").next(true), 11);
        Check.due("t is 4: by 3 it would be 10, by 5 212", Check.roomOf("B300w000-+001w0+00+001w000-+001w0-00+001").next(true), 12);
    }

    /** Rooms of n weights, of all kinds: few and many weighings, laden, half laden, like ones. */
    private static String someText(Random random, int n, int many) {
        String signs = random.nextBoolean() ? "0+-" : "00+-";
        StringBuilder text = new StringBuilder("B" + n + random.nextInt(10) + random.nextInt(10));
        for (int t = 0; t < many; t++) {
            text.append('w');
            for (int pan = 0; pan <= n; pan++) text.append(signs.charAt(random.nextInt(signs.length())));
            text.append(random.nextBoolean() ? '+' : '-').append(100 + random.nextInt(20));
        }
        return text.toString();
    }

    private static Fraction totalOf(BalanceRoom x, boolean drift) {
        return x.total(drift, false) == STATE ? null : Fraction.of(x.total(drift, true), x.total(drift, false));
    }

    private static boolean isLess(Fraction one, Fraction other) {
        return one != null && (other == null || one.compareTo(other) < 0);
    }

    private static int nextByWeighing(String text, int n, boolean drift) {
        int best = NONE;
        Fraction least = null;
        for (int number = 0; number < Math.pow(3, n + 1); number++) {
            int code = Integer.parseInt(Integer.toString(number, 3));
            BalanceRoom x = Check.roomOf(text);
            if (x.weigh(code, 0) < 0) Check.due("weigh " + code, 0, 1);
            Fraction now = totalOf(x, drift);
            if (isLess(now, least)) {
                best = code;
                least = now;
            }
        }
        return best;
    }

    private static void promise20byWeighing() throws Exception {
        Check.says("one more WEIGHING with it being behind all");
        Random random = new Random(20);
        for (int n = 1; n <= 4; n++) {
            for (int many = 0; many < 8; many++) {
                for (int room = 0; room < (n < 3 ? 12 : 5); room++) {
                    String text = someText(random, n, many);
                    BalanceRoom x = Check.roomOf(text);
                    Check.due("next behind " + text, x.next(false), nextByWeighing(text, n, false));
                    Check.due("next with drift behind " + text, x.next(true), nextByWeighing(text, n, true));
                }
            }
        }
    }

    private static int betterBySwapping(BalanceRoom x) {
        int best = NONE;
        Fraction least = totalOf(x, true);
        for (int ab = 0; ab <= 67; ab++) {
            if (ab / 10 >= ab % 10 || x.swap(ab / 10, ab % 10) == UNKNOWN) continue;
            Fraction now = totalOf(x, true);
            if (isLess(now, least)) {
                best = ab;
                least = now;
            }
            x.undo();
        }
        return best;
    }

    private static void promise21bySwapping() throws Exception {
        Check.says("those by whose being SWAPPED TOTAL with DRIFT is least, if that is less than it is now");
        Random random = new Random(21);
        int found = 0;
        for (int room = 0; room < 600; room++) {
            String text = someText(random, 1 + room % 4, 2 + room % 7);
            BalanceRoom x = Check.roomOf(text);
            if (totalOf(x, true) == null) continue;
            found++;
            Check.due("better in " + text, x.better(), betterBySwapping(x));
        }
        Check.due("many are determined", found > 200 ? 1 : 0, 1);
    }

    /** Without drift numbers do not matter: to be without a weighing is as if it were taken. */
    private static void promises22and23byTaking() throws Exception {
        Check.says("DOUBTFUL: the WEIGHING WITHOUT which all is DETERMINED and SQUARES is least");
        Random random = new Random(22);
        for (int room = 0; room < 600; room++) {
            String text = someText(random, 1 + room % 4, room % 9);
            BalanceRoom x = Check.roomOf(text);
            int best = NONE;
            int bits = 0;
            Fraction least = null;
            for (int t = 0; t < x.count(3); t++) {
                x.take(t);
                boolean determined = x.squares(false, false) != STATE;
                Fraction now = determined ? Fraction.of(x.squares(false, true), x.squares(false, false)) : null;
                if (isLess(now, least)) {
                    best = t;
                    least = now;
                }
                if (determined && now.isZero()) bits += 1 << t;
                x.undo();
            }
            Check.due("doubtful in " + text, x.doubtful(false), best);
            Check.due("wrong in " + text, x.wrong(false), bits);
        }
    }

    private static void promise20full() throws Exception {
        Check.says("NEXT; NONE. FULL: there are 8.");
        BalanceRoom x = Check.roomOf(Check.likeOnes(2, 7, "+-", "+001"));
        Check.due("seven", x.next(false), 11);
        x.weigh(0, 0);
        Check.due("eight", x.next(false), FULL);
        Check.due("eight with drift", x.next(true), FULL);
        x.take(7);
        Check.due("seven again", x.next(false), 11);
    }

    private static void promise21better() throws Exception {
        Check.says("SWAP: of all two WEIGHINGS a less than b those by whose being SWAPPED TOTAL with DRIFT is least");
        Check.due("the weights go to 0 and 1", Check.roomOf("B100w00+001w0++001w0++001w00+001").better(), 2);
        Check.due("the last of eight", Check.roomOf("B100" + "w00+001".repeat(7) + "w0++001").better(), 7);
        Check.due("6 and 7 of eight", Check.roomOf(Check.likeOnes(1, 6, "-", "+001") + "w00+001w0-+001").better(), 67);
        Check.says("if that is less than it is now: 10 a + b");
        Check.due("as much as now is not less", Check.roomOf("B100w0++001w0-+001").better(), NONE);
        Check.due("all are alike", Check.roomOf(Check.likeOnes(1, 8, "+", "+001")).better(), NONE);
        Check.due("none can be better", Check.roomOf("B100w0++001w0++001w00+001w00+001").better(), NONE);
        Check.says("of like ones the least such number; NONE.");
        Check.due("0 1 and 1 2 are alike", Check.roomOf("B100w0++001w00+001w0-+001").better(), 1);
        Check.due("0 2 and 1 3 are alike", Check.roomOf("B100w0-+001w0-+001w0++001w0++001").better(), 2);
    }

    private static void promise21determined() throws Exception {
        Check.says("SWAP: two by which all is not DETERMINED any more are none such.");
        Check.due("only such a swap", Check.roomOf("B100w0++001w00+001").better(), NONE);
        Check.due("s at 0 is least already", Check.roomOf("B100w0++001w00+001w00+001").better(), NONE);
        Check.says("SWAP; NONE. STATE: not DETERMINED with DRIFT.");
        Check.due("no weighings", new BalanceRoom().better(), STATE);
        Check.due("one weighing", Check.roomOf("B100w0++001").better(), STATE);
        Check.due("determined without drift alone", Check.roomOf("B100w00+001w0++001").better(), STATE);
        Check.due("though a swap would make it so", Check.roomOf("B100w00+001w0++001").rank(true), 1);
    }

    // ---- doubtful, wrong

    private static void promise22() throws Exception {
        Check.says("DOUBTFUL: the WEIGHING WITHOUT which all is DETERMINED and SQUARES is least; of like ones the least; NONE:"
                + " WITHOUT each all is not DETERMINED.");
        Check.due("the first", Check.roomOf("B100w0++009w0++002w0++002").doubtful(false), 0);
        Check.due("the last of eight", Check.roomOf(Check.likeOnes(1, 7, "+", "+004") + "w0++005").doubtful(false), 7);
        Check.due("all alike", Check.roomOf(Check.likeOnes(1, 8, "+", "+004")).doubtful(false), 0);
        Check.due("1 and 2 alike", Check.roomOf("B100w00+000w0++001w0++003").doubtful(false), 1);
        Check.due("the needed one is none", Check.roomOf("B200w0+0+900w00++005w00++006w00++009").doubtful(false), 3);
        Check.due("no weighings", new BalanceRoom().doubtful(false), NONE);
        Check.due("no weighings with drift", new BalanceRoom().doubtful(true), NONE);
        Check.due("one weighing", Check.roomOf("B100w0++001").doubtful(false), NONE);
        Check.due("just as many as are needed", Check.roomOf("B200w0+0+001w00++002").doubtful(false), NONE);
        Check.due("one more than is needed", Check.roomOf("B200w0+0+001w00++002w0+++009").doubtful(false), 0);
        Check.due("not determined at all", Check.roomOf("B200w0+0+001w0+0+002w0+0+003").doubtful(false), NONE);
        Check.due("two, with drift", Check.roomOf("B100w0++001w0++003").doubtful(true), NONE);
        Check.due("three, with drift", Check.roomOf("B100w0++001w0++003w0++009").doubtful(true), 0);
    }

    private static void withoutNumbersStay() throws Exception {
        Check.says("WITHOUT a WEIGHING all others stay what they are, their numbers t, too.");
        BalanceRoom x = Check.roomOf("B100w0++010w0++099w0++014w0++016");
        Check.due("10, 14, 16 at 0, 2, 3 are right", x.wrong(true), 2);
        Check.due("the doubtful one", x.doubtful(true), 1);
        BalanceRoom y = Check.roomOf("B100w0++010w0++099w0++012w0++014");
        Check.due("10, 12, 14 at 0, 2, 3 are not", y.wrong(true), 0);
        BalanceRoom z = Check.roomOf("B100w00+003w0++010w0++012");
        Check.due("without the first the others stay at 1 and 2", z.wrong(true), 1);
        Check.due("without the second not determined is what 0 at 1 would be", Check.roomOf("B100w0++010w0++011w00+005").wrong(true), 7);
    }

    private static void promise23() throws Exception {
        Check.says("WRONG: WEIGHINGS (bits) WITHOUT which all is DETERMINED and SQUARES is 0.");
        Check.due("none at all", new BalanceRoom().wrong(false), 0);
        Check.due("none at all with drift", new BalanceRoom().wrong(true), 0);
        Check.due("one weighing is needed", Check.roomOf("B100w0++001").wrong(false), 0);
        Check.due("each of two", Check.roomOf("B100w0++001w0++002").wrong(false), 3);
        Check.due("not the needed one", Check.roomOf("B200w0+0+005w00++003w00++003").wrong(false), 6);
        Check.due("bit 0", Check.roomOf("B100w0++009w0++002w0++002").wrong(false), 1);
        Check.due("bit 7", Check.roomOf(Check.likeOnes(1, 7, "+", "+004") + "w0++005").wrong(false), 128);
        Check.due("all bits", Check.roomOf(Check.likeOnes(1, 8, "+", "+004")).wrong(false), 255);
        Check.due("all bits with drift", Check.roomOf(Check.likeOnes(1, 8, "+", "+004")).wrong(true), 255);
        Check.due("two are wrong, so none alone", Check.roomOf("B100w0++001w0++002w0++003w0++003").wrong(false), 0);
        Check.due("by 1 at the greatest readings", Check.roomOf("B199w-++999w-++998w-++999").wrong(false), 2);
    }

    // ---- judge

    private static void promise24bounds() throws Exception {
        Check.says("JUDGED; NONE. OUTSIDE: n, row (0 or more, 4 n figures at most).");
        BalanceRoom x = new BalanceRoom();
        for (int n : new int[] {0, -1, 5, 6, Check.LEAST, Check.MOST}) {
            Check.due("n " + n, x.judge(n, 4000), OUTSIDE);
            Check.due("n " + n + ", row 0", x.judge(n, 0), OUTSIDE);
        }
        long bound = 1;
        for (int n = 1; n <= 4; n++) {
            bound *= 10000;
            Check.due("row 0", x.judge(n, 0), 0);
            Check.due("row -1", x.judge(n, -1), OUTSIDE);
            Check.due("least", x.judge(n, Long.MIN_VALUE), OUTSIDE);
            Check.due("all nines", x.judge(n, bound - 1), 0);
            Check.due("one figure more", x.judge(n, bound), OUTSIDE);
            Check.due("greatest", x.judge(n, Long.MAX_VALUE), OUTSIDE);
        }
        Check.due("beyond an int", x.judge(3, 4000_4000_4000L), NONE);
        Check.due("it would be right, were it cut to an int", x.judge(1, 4000 + (1L << 32)), OUTSIDE);
    }

    private static void promise24places() throws Exception {
        Check.says("JUDGED: n doings (1 to 4), told as four figures each (the first one's are the highest of row)");
        BalanceRoom x = new BalanceRoom();
        long[] rows = {4000L, 4000_4000L, 4000_4000_4000L, 4000_4000_4000_4000L};
        for (int n = 1; n <= 4; n++) {
            Check.due("all are so, n " + n, x.judge(n, rows[n - 1]), NONE);
            long unit = 1;
            for (int place = n - 1; place >= 0; place--) {
                Check.due("n " + n + ", not at " + place, x.judge(n, rows[n - 1] + 100 * unit), place);
                Check.due("n " + n + ", all from " + place + " on not", x.judge(n, rows[n - 1] + 100 * unit + unit / 10 * 9999), place);
                unit *= 10000;
            }
        }
        Check.due("fewer figures: noughts ahead, which are no doing", x.judge(4, 4000_4000_4000L), 0);
        Check.says("the place of the first that can not be (or is not so); NONE: none.");
        for (int kind : new int[] {0, 7, 8, 9}) {
            Check.due("no such doing " + kind, x.judge(1, 1000 * kind), 0);
            Check.due("no such doing behind one", x.judge(2, 4000_0000L + 1000 * kind), 1);
        }
    }

    private static void promise24swapped() throws Exception {
        Check.says("1, two WEIGHINGS, 0: SWAPPED");
        BalanceRoom x = Check.roomOf("B100w0++002w0++002w0++005w0++002");
        Check.due("it can be", x.judge(1, 1020), NONE);
        Check.due("told the other way", x.judge(1, 1200), NONE);
        Check.due("the last", x.judge(1, 1030), NONE);
        Check.due("no such one", x.judge(1, 1400), 0);
        Check.due("no such other", x.judge(1, 1040), 0);
        Check.due("both are one", x.judge(1, 1110), 0);
        Check.due("its last figure is 0", x.judge(1, 1021), 0);
        Check.due("no weighings", new BalanceRoom().judge(1, 1010), 0);
    }

    private static void promise24taken() throws Exception {
        Check.says("2, a WEIGHING, 0, 0: TAKEN");
        BalanceRoom x = Check.roomOf("B100w0++002w0++002w0++005w0++002");
        Check.due("the last", x.judge(1, 2300), NONE);
        Check.due("no such one", x.judge(1, 2400), 0);
        Check.due("its third figure is 0", x.judge(1, 2010), 0);
        Check.due("its last figure is 0", x.judge(1, 2001), 0);
        Check.due("all four", x.judge(4, 2300_2200_2100_2000L), NONE);
        Check.due("the last is gone by then", x.judge(2, 2300_2300L), 1);
        Check.due("none is left", x.judge(4, 2000_2000_2000_2100L), 3);
    }

    private static void promise24value() throws Exception {
        Check.says("3, a WEIGHT, two figures v: all is DETERMINED without DRIFT, and its VALUE is v");
        BalanceRoom x = Check.roomOf("B200w0+0+000w00++099");
        Check.due("0", x.judge(1, 3000), NONE);
        Check.due("99", x.judge(1, 3199), NONE);
        Check.due("not 99", x.judge(1, 3198), 0);
        Check.due("not 0", x.judge(1, 3001), 0);
        Check.due("no such weight", x.judge(1, 3200), 0);
        Check.due("no such weight 9", x.judge(1, 3999), 0);
        Check.due("100 is not 0", Check.roomOf("B100w0++100").judge(1, 3000), 0);
        Check.due("below 0", Check.roomOf("B100w0+-005").judge(1, 3005), 0);
        Check.due("not determined", Check.roomOf("B200w0+0+007").judge(1, 3007), 0);
        Check.due("no weighings", new BalanceRoom().judge(1, 3000), 0);
        Check.says("JUDGED 3: just v.");
        Check.due("5 and a half is not 5", Check.roomOf("B100w0++005w0++006").judge(1, 3005), 0);
        Check.due("nor 6", Check.roomOf("B100w0++005w0++006").judge(1, 3006), 0);
        Check.due("11 halves is not 11", Check.roomOf("B100w0++005w0++006").judge(1, 3011), 0);
        Check.due("14 halves is 7", Check.roomOf("B100w0++005w0++009").judge(1, 3007), NONE);
    }

    private static void promise24rank() throws Exception {
        Check.says("4, r, 0, 0: RANK without DRIFT is r");
        Check.due("no weighings", new BalanceRoom().judge(1, 4000), NONE);
        Check.due("not 1", new BalanceRoom().judge(1, 4100), 0);
        BalanceRoom x = Check.roomOf("B400w0+000+001w00+00+001w000+0+001w0000++001w00000+001");
        Check.due("4", x.judge(1, 4400), NONE);
        Check.due("5 it is with drift alone", x.judge(1, 4500), 0);
        Check.due("9", x.judge(1, 4900), 0);
        Check.due("its third figure is 0", x.judge(1, 4410), 0);
        Check.due("its last figure is 0", x.judge(1, 4401), 0);
    }

    private static void promise24doubtful() throws Exception {
        Check.says("5, a WEIGHING, 0, 0: it is DOUBTFUL without DRIFT");
        BalanceRoom x = Check.roomOf("B100w0++002w0++002w0++005w0++002");
        Check.due("it is", x.judge(1, 5200), NONE);
        Check.due("it is not", x.judge(1, 5000), 0);
        Check.due("its third figure is 0", x.judge(1, 5210), 0);
        Check.due("its last figure is 0", x.judge(1, 5201), 0);
        BalanceRoom none = Check.roomOf("B100w0++002");
        for (int t = 0; t <= 9; t++) Check.due("NONE is no weighing " + t, none.judge(1, 5000 + 100 * t), 0);
        BalanceRoom y = Check.roomOf("B100w0++010w0++099w0++014w0++016");
        Check.due("without drift", y.judge(1, 5100), NONE);
        BalanceRoom z = Check.roomOf("B100w0++010w0++020w0++031w0++040");
        Check.due("with drift it is 2", z.doubtful(true), 2);
        Check.due("that does not count", z.judge(1, 5200), 0);
        Check.due("without drift it is 0", z.judge(1, 5000), NONE);
    }

    private static void promise24master() throws Exception {
        Check.says("6, 0, two figures: M is told");
        BalanceRoom x = Check.roomOf("B110w-++005");
        Check.due("00", x.judge(2, 6000_3005L), NONE);
        Check.due("94", x.judge(2, 6094_3099L), NONE);
        Check.due("99 can be", x.judge(1, 6099), NONE);
        Check.due("as it is", x.judge(2, 6010_3015L), NONE);
        Check.due("its second figure is 0", x.judge(1, 6110), 0);
        Check.due("told twice, the last counts", x.judge(3, 6000_6001_3006L), NONE);
        Check.due("M stays", x.count(2), 10);
    }

    private static void promise24fromThenOn() throws Exception {
        Check.says("1, 2, 6 are done, from then on; 3 to 5 are asked as it is then.");
        BalanceRoom x = Check.roomOf("B100w0++002w0++002w0++005w0++002");
        Check.due("asked ahead of it", x.judge(2, 5200_1020L), NONE);
        Check.due("asked behind it", x.judge(2, 1020_5000L), NONE);
        Check.due("not as it was", x.judge(2, 1020_5200L), 1);
        Check.due("swapped there and back", x.judge(3, 1020_1020_5200L), NONE);
        Check.due("taken, it is 2", x.judge(2, 2200_3002L), NONE);
        Check.due("ahead of that it is not", x.judge(2, 3002_2200L), 0);
        Check.due("later ones are one less", x.judge(2, 2000_5100L), NONE);
        Check.due("ranks by then", x.judge(4, 4100_2000_2000_4100L), NONE);
        Check.due("none left", Check.roomOf("B100w0++002").judge(3, 4100_2000_4000L), NONE);
        Check.due("nothing is changed by any of it", Check.standing(x), "N1 M0 1:2 1:2 1:5 1:2");
    }

    public static void main(String[] args) throws Exception {
        leastSum();
        masterOfEachSign();
        driftTimesNumber();
        firstNumberIsNought();
        rankOfColumns();
        rankWithoutWeighings();
        determinedJustThen();
        byPansAlone();
        promise15();
        valuesBelowNought();
        promise16();
        spreadIsVariance();
        promise17();
        promise18();
        nothingOnIt();
        promise19();
        promise20next();
        promise20number();
        promise20byWeighing();
        promise20full();
        promise21better();
        promise21bySwapping();
        promise21determined();
        promise22();
        promises22and23byTaking();
        withoutNumbersStay();
        promise23();
        promise24bounds();
        promise24places();
        promise24swapped();
        promise24taken();
        promise24value();
        promise24rank();
        promise24doubtful();
        promise24master();
        promise24fromThenOn();
        Check.end();
    }
}
