import java.math.BigInteger;

/** Edges of shares, chances, the seed, places to keep in: part 3 of the terms, promises 25 to 31. */
public final class EdgesOfChancesTest {
    private static final int UNKNOWN = Check.UNKNOWN, OUTSIDE = Check.OUTSIDE, STATE = Check.STATE;
    private static final long FACTOR = 6364136223846793005L, STEP = 1442695040888963407L;

    private static void share(String what, BalanceRoom x, int weighing, boolean drift, int above, int below) {
        Check.fraction(what, x.share(weighing, drift, true), x.share(weighing, drift, false), above, below);
    }

    private static void lost(String what, BalanceRoom x, int tenths, boolean drift, int above, int below) {
        Check.fraction(what, x.lost(tenths, drift, true), x.lost(tenths, drift, false), above, below);
    }

    // ---- share

    private static void promise25() throws Exception {
        Check.says("`int share(int weighing, boolean drift, boolean upper)`: SHARE. UNKNOWN.");
        BalanceRoom x = Check.roomOf("B200w0+0+001w00++002");
        share("the first", x, 0, false, 1, 1);
        share("the last", x, 1, false, 1, 1);
        for (int t : new int[] {-1, 2, 7, 8, Check.LEAST, Check.MOST}) {
            Check.due("weighing " + t, x.share(t, false, true), UNKNOWN);
            Check.due("weighing " + t + ", below", x.share(t, true, false), UNKNOWN);
        }
        Check.due("none at all", new BalanceRoom().share(0, false, true), UNKNOWN);
    }

    private static void sharesOfOrders() throws Exception {
        Check.says("if WEIGHINGS come one by one, in each order as likely (their numbers t as they are): by how much RANK of those that"
                + " have come is more in the mean when it has come");
        share("one alone", Check.roomOf("B100w0++001"), 0, false, 1, 1);
        share("nothing on it", Check.roomOf("B100w+0+001"), 0, false, 0, 1);
        for (int many = 1; many <= 8; many++) {
            BalanceRoom x = Check.roomOf(Check.likeOnes(1, many, "-", "+001"));
            for (int t = 0; t < many; t++) share("one of " + many + " like ones", x, t, false, 1, many);
        }
        // The third is told by the other two: it adds unless both have come, and so does each of them.
        BalanceRoom x = Check.roomOf("B200w0+0+001w00++002w0+++003");
        for (int t = 0; t < 3; t++) share("two of three", x, t, false, 2, 3);
        // The two like ones share what one would have; the other is told by none of them.
        BalanceRoom y = Check.roomOf("B300w0+00+001w0-00+001w00++-007");
        share("like ones", y, 0, false, 1, 2);
        share("like ones", y, 1, false, 1, 2);
        share("the other", y, 2, false, 1, 1);
    }

    private static void sharesLeaveNumbers() throws Exception {
        Check.says("WITHOUT, LOST, SHARE leave numbers.");
        // At t 0, 1, 2 any two tell both; were they counted anew as they come, the two last would not.
        BalanceRoom x = Check.roomOf("B100w0++004w00+004w0++004");
        for (int t = 0; t < 3; t++) share("two of three by numbers 0, 1, 2", x, t, true, 2, 3);
        lost("two of three are left by half", x, 5, true, 1, 2);
        Check.due("without each it is determined", x.doubtful(true), 0);
        BalanceRoom y = Check.roomOf("B100w0++004w00+004");
        share("at t 1 nothing on it tells drift", y, 1, true, 1, 1);
        share("at t 0 it tells nothing", Check.roomOf("B100w00+004w0++004"), 0, true, 0, 1);
    }

    private static void sharesSumUpToRank() throws Exception {
        Check.says("SHARE of a WEIGHING");
        String[] texts = {"B450w+-0+0+012w-+-00-100w0-+-++200w+++--+003w0-0-0-045w-+++++999w000++-031w0+-00+001",
            "B300" + "w0++0+001w00+-+001w0+0++001w0000+001".repeat(2), "B299w000+001w0+++001w0--+001"};
        for (String text : texts) {
            BalanceRoom x = Check.roomOf(text);
            for (boolean drift : new boolean[] {false, true}) {
                Fraction sum = Fraction.ZERO;
                for (int t = 0; t < x.count(3); t++) {
                    sum = sum.plus(Fraction.of(x.share(t, drift, true), x.share(t, drift, false)));
                }
                Check.fraction(text, sum.side(true), sum.side(false), x.rank(drift), 1);
            }
        }
    }

    // ---- lost

    private static void promise26() throws Exception {
        Check.says("`int lost(int x, boolean drift, boolean upper)`: LOST. OUTSIDE: x.");
        BalanceRoom x = Check.roomOf("B100w0++001");
        for (int tenths = 0; tenths <= 10; tenths++) {
            Fraction left = Fraction.of(10 - tenths, 10);
            lost(tenths + " tenths", x, tenths, false, (int) left.side(true), (int) left.side(false));
        }
        for (int tenths : new int[] {-1, 11, 100, Check.LEAST, Check.MOST}) {
            Check.due(tenths + " tenths", x.lost(tenths, false, true), OUTSIDE);
            Check.due(tenths + " tenths, below", x.lost(tenths, true, false), OUTSIDE);
        }
    }

    private static void lostByTenths() throws Exception {
        Check.says("LOST: each WEIGHING is lost by x tenths (0 to 10), by itself (others stay what they are, t, too): that all is"
                + " DETERMINED: a FRACTION.");
        for (int tenths = 0; tenths <= 10; tenths++) {
            lost("no weighings", new BalanceRoom(), tenths, false, 0, 1);
            lost("no weighings with drift", new BalanceRoom(), tenths, true, 0, 1);
            lost("never determined", Check.roomOf("B200w0+0+001w0-0+001"), tenths, false, 0, 1);
        }
        BalanceRoom eight = Check.roomOf(Check.likeOnes(1, 8, "+", "+001"));
        lost("none of eight is lost", eight, 0, true, 1, 1);
        lost("all of eight are lost", eight, 10, true, 0, 1);
        lost("one of eight is left", eight, 1, false, 99999999, 100000000);
        lost("one of eight is left, by nine tenths", eight, 9, false, 100000000 - 43046721, 100000000);
        // 1 - 9^8/10^8 - 8 9^7/10^8
        lost("two of eight are left", eight, 9, true, (100000000 - 43046721 - 8 * 4782969), 100000000);
        // Four are each needed: (7/10)^4
        lost("each of four is needed", Check.roomOf("B400w0+000+001w00+00+001w000+0+001w0000++001"), 3, false, 2401, 10000);
    }

    // ---- seed, drawn

    private static void promise27() throws Exception {
        Check.says("THE SEED is v: what it was.");
        BalanceRoom x = new BalanceRoom();
        Check.due("0 at first", x.seed(Long.MAX_VALUE), 0);
        Check.due("the greatest", x.seed(Long.MIN_VALUE), Long.MAX_VALUE);
        Check.due("the least", x.seed(-1), Long.MIN_VALUE);
        Check.due("-1", x.seed(1L << 32), -1);
        Check.due("beyond an int", x.seed(0), 1L << 32);
        Check.due("0", x.seed(0), 0);
    }

    private static void seedWraps() throws Exception {
        Check.says("becomes x * 6364136223846793005L + 1442695040888963407L (64 bits, wrapping)");
        long[] seeds = {0, 1, -1, 2, Long.MAX_VALUE, Long.MIN_VALUE, 1L << 32, -5000000000L, FACTOR, STEP};
        BigInteger factor = BigInteger.valueOf(FACTOR);
        BigInteger step = BigInteger.valueOf(STEP);
        for (long seed : seeds) {
            BigInteger due = BigInteger.valueOf(seed);
            BalanceRoom x = new BalanceRoom();
            x.seed(seed);
            for (int m : new int[] {1, 2, 20}) {
                for (int draw = 0; draw < m; draw++) due = due.multiply(factor).add(step);
                Check.due("drawn with none doubtful", x.drawn(m), m);
                long now = due.longValue();
                Check.due("the seed from " + seed + " behind " + m, x.seed(now), now);
            }
        }
    }

    /** The seed by which the next number drawn is just this one: the factor is odd, so it has an inverse. */
    private static long seedAhead(long drawn) {
        long inverse = FACTOR;
        for (int step = 0; step < 6; step++) inverse *= 2 - FACTOR * inverse;
        return (drawn - STEP) * inverse;
    }

    /** A room of eight in which three weighings tell the weight, read one ten apart, the others nothing. */
    private static BalanceRoom threeOfEight(int first, int second, int third, int middle) {
        StringBuilder text = new StringBuilder("B100");
        for (int t = 0; t < 8; t++) text.append(t == first || t == second || t == third ? "w0++000" : "w00+000");
        BalanceRoom x = Check.roomOf(text.toString());
        x.read(first, middle - 10);
        x.read(second, middle);
        x.read(third, middle + 10);
        return x;
    }

    /** Draws once by a number of which all bits are set that should not matter. */
    private static int drawnBy(BalanceRoom x, int weighing, int figure) {
        int bits = 0;
        for (int t = 0; t < 8; t++) bits |= (t == weighing ? figure : t % 2 == 0 ? 1 : 3) << 2 * t;
        long drawn = (long) (bits | 0x7fff0000) << 33 | 0x1ffffffffL;
        x.seed(seedAhead(drawn));
        int times = x.drawn(1);
        Check.due("the seed is that number then", x.seed(0), drawn);
        return times;
    }

    private static void drawnBitsBesideDoNotMatter() throws Exception {
        Check.says("v is (int) (x >>> 33)");
        for (int bit = 0; bit < 64; bit++) {
            BalanceRoom x = threeOfEight(0, 1, 7, 0);
            // By 1 all stand; one bit turned makes 3 (it stands) or 0 (1 less) of one of them.
            long drawn = 0x5555L << 33 ^ 1L << bit;
            x.seed(seedAhead(drawn));
            // Only the middle one, 1 less, comes nearer to the first than to the last.
            Check.due("bit " + bit, x.drawn(1), bit == 33 + 2 ? 0 : 1);
        }
        BalanceRoom last = threeOfEight(0, 1, 7, 0);
        last.seed(seedAhead(0x9555L << 33));
        Check.due("the highest two bits of weighing 7 make it 1 more", last.drawn(1), 0);
    }

    private static void drawnFigures() throws Exception {
        Check.says("DRAWN: by 0 a READING is 1 less, by 1 as it stands, by 2 1 more, by 3 as it stands.");
        int[][] places = {{0, 1, 2}, {5, 6, 7}, {3, 4, 5}, {1, 3, 6}, {0, 2, 7}};
        for (int[] p : places) {
            for (int figure = 0; figure < 4; figure++) {
                BalanceRoom x = threeOfEight(p[0], p[1], p[2], 0);
                Check.due("the first of two alike", x.doubtful(false), p[0]);
                // The two that are nearer to each other stay: only a number nearer to the last one changes it.
                Check.due("first by " + figure, drawnBy(x, p[0], figure), figure == 2 ? 0 : 1);
                Check.due("middle by " + figure, drawnBy(x, p[1], figure), figure == 0 ? 0 : 1);
                Check.due("last by " + figure, drawnBy(x, p[2], figure), figure == 2 ? 0 : 1);
                Check.due("readings stay", x.reading(p[0]), 990);
            }
        }
        for (int figure = 0; figure < 4; figure++) {
            BalanceRoom x = threeOfEight(2, 1, 0, 0);
            Check.due("the least of two alike", x.doubtful(false), 0);
            Check.due("greatest by " + figure, drawnBy(x, 0, figure), figure == 0 ? 0 : 1);
            Check.due("middle by " + figure, drawnBy(x, 1, figure), figure == 2 ? 0 : 1);
            Check.due("least by " + figure, drawnBy(x, 2, figure), figure == 0 ? 0 : 1);
        }
    }

    private static void drawnBeyondTheGreatest() throws Exception {
        Check.says("READING t of each WEIGHING t as it stands is (v >> 2 t & 3) less 1 more, but where that is 2 it is as it stands");
        BalanceRoom high = threeOfEight(0, 1, 2, 989);
        Check.due("999 and 1 more", drawnBy(high, 2, 2), 0);
        Check.due("999 and 2 more would be, it stands", drawnBy(high, 2, 3), 1);
        BalanceRoom low = threeOfEight(2, 1, 0, -989);
        Check.due("-999 and 1 less", drawnBy(low, 2, 0), 0);
        Check.due("-999 as it stands", drawnBy(low, 2, 1), 1);
    }

    private static void drawnCountsAllDraws() throws Exception {
        Check.says("how often, of m, DOUBTFUL (without DRIFT) by these READINGS is what it is now (NONE, too)");
        for (int m = 1; m <= 20; m++) {
            Check.due("NONE stays", new BalanceRoom().drawn(m), m);
            Check.due("one needed weighing, NONE", Check.roomOf("B100w0++001").drawn(m), m);
            Check.due("far off stays", Check.roomOf("B100w0++100w0++100w0++200").drawn(m), m);
        }
        BalanceRoom once = threeOfEight(1, 3, 6, 0);
        BalanceRoom often = threeOfEight(1, 3, 6, 0);
        int times = 0;
        for (int draw = 0; draw < 20; draw++) times += once.drawn(1);
        Check.due("twenty at once as one by one", often.drawn(20), times);
        Check.due("some, not all", times > 0 && times < 20 ? 1 : 0, 1);
        Check.due("the seeds, too", often.seed(0), once.seed(0));
    }

    private static void promise28() throws Exception {
        Check.says("`int drawn(int m)`: DRAWN. OUTSIDE: m.");
        BalanceRoom x = Check.roomOf("B100w0++100w0++100w0++200");
        x.seed(5);
        for (int m : new int[] {0, -1, 21, 22, Check.LEAST, Check.MOST}) Check.due("m " + m, x.drawn(m), OUTSIDE);
        Check.due("refused, the seed stays", x.seed(5), 5);
        Check.due("1", x.drawn(1), 1);
        Check.due("20", x.drawn(20), 20);
        Check.says("(Nothing changes but THE SEED.)");
        x.seed(0);
        x.keep(0);
        x.master(7);
        x.drawn(20);
        x.seed(0);
        Check.due("all but the seed", Check.drained(x), "text 25 fault -9 seed 0 acts 1 | N1 M7 1:100 1:100 1:200"
                + " | undone N1 M0 1:100 1:100 1:200 | again 3 N1 M0 1:100 1:100 1:200 | again -3 N1 M0 1:100 1:100 1:200"
                + " | room 3 N1 M0 1:100 1:100 1:200 | wiped 25");
    }

    // ---- places to keep in, count

    private static void promise29() throws Exception {
        Check.says("They are kept: how many WEIGHINGS. UNKNOWN.");
        BalanceRoom x = new BalanceRoom();
        Check.due("none", x.keep(0), 0);
        for (int t = 0; t < 8; t++) x.weigh(1, t);
        Check.due("eight", x.keep(1), 8);
        for (int slot : new int[] {-1, 2, 3, Check.LEAST, Check.MOST}) Check.due("place " + slot, x.keep(slot), UNKNOWN);
        Check.due("it is no act, and leaves the acts", x.count(4), 8);
        Check.due("acts can still be undone", x.undo(), 7);
        Check.due("what is kept stays", x.again(1), 8);
        Check.due("and the other", x.again(0), 0);
    }

    private static void slotsKeepWeighingsAndMaster() throws Exception {
        Check.says("SLOTS to keep in, 0 to 1, keep WEIGHINGS, M (THE ROW of ACTS is empty when one goes on).");
        BalanceRoom x = Check.roomOf("B230w0+++011w+0--022");
        x.keep(0);
        x.master(31);
        x.read(0, 12);
        x.take(1);
        x.keep(1);
        x.seed(9);
        x.write('w');
        Check.due("go on from 0", x.again(0), 2);
        Check.due("as it was", Check.standing(x), "N2 M30 11:11 102:-22");
        Check.due("the row is empty", x.count(4), 0);
        Check.due("nothing to undo", x.undo(), STATE);
        x.read(1, 999);
        x.swap(0, 1);
        Check.due("go on from 1", x.again(1), 1);
        Check.due("as it was then", Check.standing(x), "N2 M31 11:12");
        Check.due("from 0 once more", x.again(0), 2);
        Check.due("acts since did not touch it", Check.standing(x), "N2 M30 11:11 102:-22");
        x.take(0);
        x.keep(0);
        Check.due("kept anew", x.again(0), 1);
        Check.due("as it is now", Check.standing(x), "N2 M30 102:-22");
        Check.due("seed and text stay", Check.drained(x), "text 21 fault 21 seed 9 acts 0 | N2 M30 102:-22"
                + " | again 1 N2 M30 102:-22 | again 1 N2 M31 11:12 | room -3 N2 M31 11:12 | wiped 21");
    }

    private static void promise30() throws Exception {
        Check.says("They are as they were kept: how many WEIGHINGS. UNKNOWN; STATE: none were kept.");
        BalanceRoom x = new BalanceRoom();
        x.master(4);
        for (int slot : new int[] {-1, 2, 3, Check.LEAST, Check.MOST}) Check.due("place " + slot, x.again(slot), UNKNOWN);
        Check.due("none in 0", x.again(0), STATE);
        Check.due("none in 1", x.again(1), STATE);
        Check.due("the acts stay", x.count(4), 1);
        x.keep(1);
        Check.due("still none in 0", x.again(0), STATE);
        Check.due("none is a number, too", x.again(1), 0);
        Check.due("M is kept", x.count(2), 4);
        Check.write(x, "B100");
        x.room();
        Check.due("gone with a new room", x.again(1), STATE);
    }

    private static void promise31() throws Exception {
        Check.says("0 letters of THE TEXT, 1 N, 2 M, 3 WEIGHINGS, 4 ACTS in the row. OUTSIDE.");
        BalanceRoom x = Check.roomOf("B345w0+0-+012w0++++012");
        x.master(46);
        x.write('w');
        int[] want = {23, 3, 46, 2, 1};
        for (int what = 0; what < 5; what++) Check.due("count " + what, x.count(what), want[what]);
        for (int what : new int[] {-1, 5, 6, Check.LEAST, Check.MOST}) Check.due("count " + what, x.count(what), OUTSIDE);
    }

    public static void main(String[] args) throws Exception {
        promise25();
        sharesOfOrders();
        sharesLeaveNumbers();
        sharesSumUpToRank();
        promise26();
        lostByTenths();
        promise27();
        seedWraps();
        drawnBitsBesideDoNotMatter();
        drawnFigures();
        drawnBeyondTheGreatest();
        drawnCountsAllDraws();
        promise28();
        promise29();
        slotsKeepWeighingsAndMaster();
        promise30();
        promise31();
        Check.end();
    }
}
