/** Edges of the acts and of undoing them: promises 8 to 13. */
public final class EdgesOfActsTest {
    private static final int UNKNOWN = Check.UNKNOWN, OUTSIDE = Check.OUTSIDE, STATE = Check.STATE, FULL = Check.FULL;

    private static void weighedBehindAll() throws Exception {
        Check.says("WEIGHED: one more WEIGHING, behind all.");
        BalanceRoom x = Check.roomOf("B100w0++001w+0-002");
        Check.due("how many", x.weigh(21, 3), 3);
        Check.due("it is the last", Check.standing(x), "N1 M0 1:1 10:-2 21:3");
        BalanceRoom y = new BalanceRoom();
        Check.due("the first of all", y.weigh(2, -3), 1);
        Check.due("it is number 0", Check.standing(y), "N1 M0 2:-3");
    }

    private static void promise8code() throws Exception {
        Check.says("OUTSIDE: code (not a CODE), reading; FULL: 8.");
        for (int n = 1; n <= 4; n++) {
            int bound = (int) Math.pow(10, n + 1);
            for (int code = -30; code < bound + 30; code++) {
                BalanceRoom y = Check.roomOf("B" + n + "00");
                boolean right = code >= 0 && code < bound && Integer.toString(code).matches("[012]+");
                Check.due("N " + n + ", code " + code, y.weigh(code, 0), right ? 1 : OUTSIDE);
                Check.due("it is that code", y.code(0), right ? code : UNKNOWN);
            }
            BalanceRoom x = Check.roomOf("B" + n + "00");
            for (int code : new int[] {Check.LEAST, Check.LEAST + 1, 1000000000, 2000000000, Check.MOST, 10 * bound, -bound}) {
                Check.due("N " + n + ", code " + code, x.weigh(code, 0), OUTSIDE);
            }
        }
    }

    private static void promise8reading() throws Exception {
        Check.says("WEIGHED: how many there are. OUTSIDE: code (not a CODE), reading; FULL: 8.");
        for (int reading : new int[] {-999, -998, -1, 0, 1, 998, 999}) {
            BalanceRoom x = new BalanceRoom();
            Check.due("reading " + reading, x.weigh(1, reading), 1);
            Check.due("it is that", x.reading(0), reading + 1000);
        }
        for (int reading : new int[] {-1000, 1000, 1001, 9999, Check.LEAST, Check.MOST}) {
            Check.due("reading " + reading, new BalanceRoom().weigh(1, reading), OUTSIDE);
        }
        BalanceRoom full = Check.roomOf(Check.likeOnes(2, 7, "+-", "+001"));
        Check.due("the eighth", full.weigh(0, 0), 8);
        Check.due("a ninth", full.weigh(0, 0), FULL);
        full.take(0);
        Check.due("one taken, there is room for one", full.weigh(1, 5), 8);
        Check.due("and for no more", full.weigh(1, 5), FULL);
        full.undo();
        Check.due("one undone, there is room for one", full.weigh(2, 5), 8);
    }

    private static void takenLaterOnesOneLess() throws Exception {
        Check.says("TAKEN: a WEIGHING goes, later ones are one less.");
        String text = "B100w00+000w--+001w0++002w0-+003w+0+004w+++005w+-+006w-0+007";
        String[] rows = {"0:0", "22:1", "1:2", "2:3", "10:4", "11:5", "12:6", "20:7"};
        for (int gone = 0; gone < 8; gone++) {
            BalanceRoom x = Check.roomOf(text);
            StringBuilder want = new StringBuilder("N1 M0");
            for (int t = 0; t < 8; t++) if (t != gone) want.append(' ').append(rows[t]);
            Check.due("seven are left", x.take(gone), 7);
            Check.due("taken " + gone, Check.standing(x), want.toString());
            Check.due("undone", x.undo(), 0);
            Check.due("it is at its place again", x.reading(gone), Check.roomOf(text).reading(gone));
        }
    }

    private static void promise9() throws Exception {
        Check.says("TAKEN: how many are left. UNKNOWN.");
        BalanceRoom x = Check.roomOf("B100w0++001w+0-002");
        for (int t : new int[] {-1, 2, 7, 8, Check.LEAST, Check.MOST}) Check.due("take " + t, x.take(t), UNKNOWN);
        Check.due("the last", x.take(1), 1);
        Check.due("it is gone", x.take(1), UNKNOWN);
        Check.due("the only one", x.take(0), 0);
        Check.due("none is left", x.take(0), UNKNOWN);
        Check.due("none at first", new BalanceRoom().take(0), UNKNOWN);
    }

    private static void takenOtherNumbers() throws Exception {
        Check.says("TAKEN, later ones have other numbers t: DRIFT is otherwise then");
        BalanceRoom x = Check.roomOf("B100w0++010w0++099w0++014w0++016");
        x.take(1);
        Check.fraction("10, 14, 16 at 0, 1, 2", x.value(1, true, true), x.value(1, true, false), 3, 1);
        BalanceRoom y = Check.roomOf("B100w00+000w00+000w0++010w0++010");
        Check.fraction("the spread at 2, 3", y.spread(0, true, true), y.spread(0, true, false), 14, 3);
        y.take(0);
        Check.fraction("the spread at 1, 2", y.spread(0, true, true), y.spread(0, true, false), 5, 1);
    }

    private static void promise10() throws Exception {
        Check.says("SWAPPED: the CODE of that which is at the first place then. UNKNOWN: one, other; STATE: both are one.");
        BalanceRoom x = Check.roomOf("B100w0++001w+0-002w-0+003");
        Check.due("the outermost", x.swap(0, 2), 20);
        Check.due("so they stand", Check.standing(x), "N1 M0 20:3 10:-2 1:1");
        Check.due("told the other way", x.swap(2, 1), 10);
        Check.due("so they stand then", Check.standing(x), "N1 M0 20:3 1:1 10:-2");
        for (int t : new int[] {-1, 3, 7, 8, Check.LEAST, Check.MOST}) {
            Check.due("no such one: " + t, x.swap(t, 0), UNKNOWN);
            Check.due("no such other: " + t, x.swap(0, t), UNKNOWN);
            Check.due("neither: " + t, x.swap(t, t), UNKNOWN);
        }
        for (int t = 0; t < 3; t++) Check.due("both are one: " + t, x.swap(t, t), STATE);
        Check.due("none at all", new BalanceRoom().swap(0, 0), UNKNOWN);
        Check.due("two acts", x.count(4), 2);
    }

    private static void swappedLikeOnes() throws Exception {
        Check.says("SWAPPED: two WEIGHINGS (unlike ones) change their places.");
        BalanceRoom x = Check.roomOf("B100w0++005w0++005");
        Check.due("two places, though they look alike", x.swap(0, 1), 1);
        Check.due("it is an act", x.count(4), 1);
        Check.due("one place is no two", x.swap(1, 1), STATE);
        Check.due("that is no act", x.count(4), 1);
    }

    private static void promise11() throws Exception {
        Check.says("READ: what it was, and 1000. UNKNOWN; OUTSIDE: reading.");
        BalanceRoom x = Check.roomOf("B100w0+-999w+0+999");
        Check.due("the least", x.read(0, 999), 1);
        Check.due("the greatest", x.read(1, -999), 1999);
        Check.due("so they stand", Check.standing(x), "N1 M0 1:999 10:-999");
        Check.due("nought", x.read(0, 0), 1999);
        Check.due("from nought", x.read(0, 1), 1000);
        for (int reading : new int[] {-1000, 1000, Check.LEAST, Check.MOST}) {
            Check.due("reading " + reading, x.read(0, reading), OUTSIDE);
            Check.due("reading " + reading + " of none", x.read(2, reading), UNKNOWN);
        }
        for (int t : new int[] {-1, 2, 8, Check.LEAST, Check.MOST}) Check.due("weighing " + t, x.read(t, 0), UNKNOWN);
        Check.due("none at all", new BalanceRoom().read(0, 0), UNKNOWN);
    }

    private static void promise12() throws Exception {
        Check.says("MASTER: what M was. OUTSIDE: m.");
        for (int m = 0; m <= 99; m++) {
            BalanceRoom x = new BalanceRoom();
            Check.due("m " + m, x.master(m), 0);
            Check.due("what it is", x.count(2), m);
            Check.due("what it was", x.master(0), m);
        }
        for (int m : new int[] {-1, -99, 100, 101, 1000, Check.LEAST, Check.MOST}) {
            BalanceRoom x = new BalanceRoom();
            Check.due("m " + m, x.master(m), OUTSIDE);
            Check.due("it stays", x.count(2), 0);
        }
    }

    private static void onlyWhatIsToldAnew() throws Exception {
        Check.says("READ: a READING is told anew. MASTER: M is told anew.");
        BalanceRoom x = Check.roomOf("B250w0+++010w+0--020w-+0+030");
        x.read(1, 21);
        Check.due("one reading", Check.standing(x), "N2 M50 11:10 102:21 210:30");
        x.master(51);
        Check.due("M", Check.standing(x), "N2 M51 11:10 102:21 210:30");
        Check.due("weight 0 by the master told anew: 30 and 51", Check.roomOf("B150w-++030").judge(2, 6051_3081L), Check.NONE);
    }

    private static void fourteenActs() throws Exception {
        Check.says("ACTS (these five) are a row (never more than 14; if it has 14, the first one is forgotten ahead of the next)");
        for (int acts = 0; acts <= 45; acts++) {
            BalanceRoom x = new BalanceRoom();
            for (int m = 1; m <= acts; m++) x.master(m);
            int held = Math.min(acts, 14);
            Check.due("behind " + acts + " acts", x.count(4), held);
            for (int undone = 1; undone <= held; undone++) {
                Check.due("left", x.undo(), held - undone);
                Check.due("M", x.count(2), acts - undone);
            }
            Check.due("no more", x.undo(), STATE);
            Check.due("M stays", x.count(2), acts - held);
        }
    }

    private static void undoneAndDoneAnew() throws Exception {
        Check.says("the last one can be undone");
        BalanceRoom x = new BalanceRoom();
        for (int m = 1; m <= 20; m++) x.master(m);
        for (int round = 0; round < 10; round++) {
            Check.due("undone", x.undo(), 13);
            Check.due("once more", x.undo(), 12);
            Check.due("M by then", x.count(2), 18);
            x.master(30 + round);
            Check.due("thirteen", x.count(4), 13);
            x.master(19);
            Check.due("fourteen", x.count(4), 14);
            Check.due("undone", x.undo(), 13);
            Check.due("the one ahead", x.count(2), 30 + round);
            x.undo();
            x.master(19);
            x.master(20);
        }
        for (int left = 13; left >= 0; left--) {
            Check.due("left", x.undo(), left);
            Check.due("M", x.count(2), left + 6);
        }
        Check.due("no more", x.undo(), STATE);
    }

    private static void eachNotRefusedIsAnAct() throws Exception {
        Check.says("Each that is not refused is an ACT.");
        BalanceRoom x = Check.roomOf("B107w0++005w0++005");
        x.master(7);
        Check.due("the master told as it is", x.count(4), 1);
        x.read(0, 5);
        Check.due("a reading told as it is", x.count(4), 2);
        x.swap(0, 1);
        Check.due("like ones swapped", x.count(4), 3);
        x.weigh(0, 0);
        Check.due("nothing weighed", x.count(4), 4);
        x.take(2);
        Check.due("taken", x.count(4), 5);
        x.take(2);
        x.master(100);
        x.read(0, 1000);
        x.swap(0, 0);
        x.weigh(3, 0);
        Check.due("what is refused is none", x.count(4), 5);
        x.seed(4);
        x.drawn(3);
        x.keep(0);
        x.write('B');
        x.wipe();
        x.judge(1, 1010);
        Check.due("no other call is one", x.count(4), 5);
        for (int left = 4; left >= 0; left--) Check.due("undone", x.undo(), left);
        Check.due("as it was told", Check.standing(x), "N1 M7 1:5 1:5");
    }

    private static void promise13() throws Exception {
        Check.says("The last ACT is undone: how many are left. STATE: there is none.");
        Check.due("none at first", new BalanceRoom().undo(), STATE);
        BalanceRoom x = Check.roomOf("B250w0+++010w+0--020w-+0+030");
        String[] stood = new String[6];
        stood[0] = Check.standing(x);
        x.weigh(221, -40);
        stood[1] = Check.standing(x);
        x.take(0);
        stood[2] = Check.standing(x);
        x.swap(2, 0);
        stood[3] = Check.standing(x);
        x.read(1, 999);
        stood[4] = Check.standing(x);
        x.master(99);
        for (int left = 4; left >= 0; left--) {
            Check.due("left", x.undo(), left);
            Check.due("as it stood", Check.standing(x), stood[left]);
        }
        Check.due("none is left", x.undo(), STATE);
        Check.due("nothing changed by that", Check.standing(x), stood[0]);
    }

    private static void undoingLeavesTheRest() throws Exception {
        Check.says("The last ACT is undone");
        BalanceRoom x = Check.roomOf("B250w0+++010");
        x.master(1);
        x.keep(1);
        x.seed(12);
        x.write('w');
        x.undo();
        Check.due("text, seed and what was kept stay", Check.drained(x), "text 13 fault 13 seed 12 acts 0 | N2 M50 11:10"
                + " | again -3 N2 M50 11:10 | again 1 N2 M1 11:10 | room -3 N2 M1 11:10 | wiped 13");
    }

    public static void main(String[] args) throws Exception {
        weighedBehindAll();
        promise8code();
        promise8reading();
        takenLaterOnesOneLess();
        promise9();
        takenOtherNumbers();
        promise10();
        swappedLikeOnes();
        promise11();
        promise12();
        onlyWhatIsToldAnew();
        fourteenActs();
        undoneAndDoneAnew();
        eachNotRefusedIsAnAct();
        promise13();
        undoingLeavesTheRest();
        Check.end();
    }
}
