/** Edges of the room and of the text that tells it: part 1 of the terms, promises 1 to 7. */
public final class EdgesOfRoomTest {
    private static final int UNKNOWN = Check.UNKNOWN, OUTSIDE = Check.OUTSIDE, STATE = Check.STATE, FULL = Check.FULL;
    private static final int NONE = Check.NONE;
    private static final String FIGURES = "0123456789";

    private static void faultOf(String text, int want) {
        BalanceRoom x = Check.texted(text);
        Check.due("fault of " + text, x.fault(), want);
        int told = x.room();
        Check.due("room of " + text, told < 0 ? told : 0, want == NONE ? 0 : STATE);
    }

    /** For each place of a room of n weights and eight weighings the letters that may stand there. */
    private static String[] mayStand(int n) {
        int each = n + 6;
        String[] letters = new String[4 + 8 * each];
        letters[0] = "B";
        letters[1] = "1234";
        letters[2] = FIGURES;
        letters[3] = FIGURES;
        for (int place = 4; place < letters.length; place++) {
            int inside = (place - 4) % each;
            letters[place] = inside == 0 ? "w" : inside <= n + 1 ? "0+-" : inside == n + 2 ? "+-" : FIGURES;
        }
        return letters;
    }

    private static String eightWeighings(int n) {
        return "B" + n + "00" + ("w" + "0".repeat(n + 1) + "+000").repeat(8);
    }

    // ---- part 1: weights, master, weighings

    private static void weightsOneToFour() throws Exception {
        Check.says("WEIGHTS are 0 to N less 1 (N 1 to 4; 1 at first).");
        Check.due("N at first", new BalanceRoom().count(1), 1);
        for (int n = 1; n <= 4; n++) {
            BalanceRoom x = Check.roomOf("B" + n + "00");
            Check.due("N told as " + n, x.count(1), n);
            Check.due("weight N less 1", x.spread(n - 1, false, true), STATE);
            Check.due("weight N", x.spread(n, false, true), UNKNOWN);
            Check.due("weight 0", x.spread(0, false, true), STATE);
            Check.due("weight -1", x.spread(-1, false, true), UNKNOWN);
        }
        faultOf("B0", 1);
        faultOf("B000", 1);
        faultOf("B5", 1);
        faultOf("B500", 1);
    }

    private static void masterToNinetyNine() throws Exception {
        Check.says("THE MASTER is M (0 to 99; 0 at first).");
        BalanceRoom x = new BalanceRoom();
        Check.due("M at first", x.count(2), 0);
        Check.due("99", x.master(99), 0);
        Check.due("100", x.master(100), OUTSIDE);
        Check.due("0", x.master(0), 99);
        Check.due("-1", x.master(-1), OUTSIDE);
        Check.due("M told as 00", Check.roomOf("B100").count(2), 0);
        Check.due("M told as 99", Check.roomOf("B199").count(2), 99);
        Check.due("M told as 09", Check.roomOf("B109").count(2), 9);
        Check.due("M told as 90", Check.roomOf("B190").count(2), 90);
    }

    private static void neverMoreThanEight() throws Exception {
        Check.says("WEIGHINGS are 0, 1, .. (never more than 8; none at first)");
        BalanceRoom x = new BalanceRoom();
        Check.due("none at first", x.count(3), 0);
        for (int t = 0; t < 8; t++) Check.due("one more", x.weigh(1, t), t + 1);
        Check.due("no ninth", x.weigh(1, 8), FULL);
        Check.due("eight are there", x.count(3), 8);
        Check.due("the eighth is number 7", x.reading(7), 1007);
        Check.due("there is no number 8", x.reading(8), UNKNOWN);
        Check.due("eight by a text", Check.roomOf(eightWeighings(4)).count(3), 8);
    }

    private static void pansAndReadings() throws Exception {
        Check.says("each with a PAN for THE MASTER and for each WEIGHT (0 none, 1 plus, 2 minus) and a READING (-999 to 999)");
        for (int master = 0; master <= 2; master++) {
            for (int weight = 0; weight <= 2; weight++) {
                for (int reading : new int[] {-999, 0, 999}) {
                    BalanceRoom x = new BalanceRoom();
                    x.master(40);
                    Check.due("weigh", x.weigh(10 * master + weight, reading), 1);
                    int left = reading - (master == 2 ? -1 : master) * 40;
                    Check.due("rank", x.rank(false), weight == 0 ? 0 : 1);
                    if (weight != 0) Check.due("value", x.value(0, false, true), weight == 2 ? -left : left);
                    x.weigh(1, 0);
                    if (weight == 0) Check.due("rest", x.rest(0, false, true), left);
                }
            }
        }
        Check.due("a pan 3", new BalanceRoom().weigh(3, 0), OUTSIDE);
        Check.due("a master's pan 3", new BalanceRoom().weigh(30, 0), OUTSIDE);
        Check.due("a reading 1000", new BalanceRoom().weigh(1, 1000), OUTSIDE);
        Check.due("a reading -1000", new BalanceRoom().weigh(1, -1000), OUTSIDE);
    }

    private static void codeFigures() throws Exception {
        Check.says("N and 1 figures, that of THE MASTER the highest, then WEIGHT 0, 1, .. .");
        for (int n = 1; n <= 4; n++) {
            String pans = "+-0+-".substring(0, n + 1);
            int code = Integer.parseInt("12012".substring(0, n + 1));
            BalanceRoom x = Check.roomOf("B" + n + "00w" + pans + "+001");
            Check.due("code of " + pans, x.code(0), code);
            Check.due("the highest code", x.weigh(Integer.parseInt("22222".substring(0, n + 1)), 0), 2);
            Check.due("one figure more", x.weigh(Integer.parseInt("100000".substring(0, n + 2)), 0), OUTSIDE);
        }
    }

    private static void codeNoughtsLeftOut() throws Exception {
        Check.says("a CODE is a number of figures 0, 1, 2, noughts ahead left out (N 2: 102 is THE MASTER plus, WEIGHT 1 minus)");
        Check.due("the master plus, weight 1 minus", Check.roomOf("B200w+0-+001").code(0), 102);
        Check.due("noughts ahead", Check.roomOf("B400w0000-+001").code(0), 2);
        Check.due("all noughts", Check.roomOf("B400w00000+001").code(0), 0);
        BalanceRoom x = Check.roomOf("B210");
        x.weigh(102, 3);
        x.weigh(10, 5);
        Check.due("3 is 10 less weight 1", x.value(1, false, true), 7);
        Check.due("5 is weight 0", x.value(0, false, true), 5);
    }

    // ---- the text

    private static void textOf90() throws Exception {
        Check.says("THE TEXT is letters (never more than 90).");
        BalanceRoom x = Check.texted("w".repeat(89));
        Check.due("the 90th", x.write('w'), 90);
        Check.due("the 91st", x.write('w'), FULL);
        Check.due("90 are there", x.count(0), 90);
    }

    private static void eachLetterAtEachPlace() throws Exception {
        Check.says("B, N (1 to 4), M (two figures), then WEIGHINGS, none or more: w, N and 1 PANS (0, + or - each, in the row of a"
                + " CODE), a sign (+ or -), three figures (the READING; -000 is 0).");
        for (int n = 1; n <= 4; n++) {
            String whole = eightWeighings(n);
            String[] may = mayStand(n);
            for (int place = 0; place < whole.length(); place++) {
                boolean ends = place >= 3 && (place + 1 - 4) % (n + 6) == 0;
                for (int letter = 0; letter < 256; letter++) {
                    BalanceRoom x = Check.texted(whole.substring(0, place));
                    x.write(letter);
                    boolean stands = may[place].indexOf(letter) >= 0;
                    Check.due("N " + n + ", letter " + letter + " at " + place, x.fault(), !stands ? place : ends ? NONE : place + 1);
                }
            }
        }
    }

    private static void noneOrMoreWeighings() throws Exception {
        Check.says("then WEIGHINGS, none or more");
        for (int n = 1; n <= 4; n++) {
            for (int many = 0; many <= 8; many++) {
                BalanceRoom x = Check.texted(eightWeighings(n).substring(0, 4 + many * (n + 6)));
                Check.due("no fault", x.fault(), NONE);
                Check.due("weighings told", x.room(), many);
            }
        }
    }

    private static void minusNoughtIsNought() throws Exception {
        Check.says("READINGS told by a text -000 or +000 are 0.");
        BalanceRoom x = Check.roomOf("B100w0+-000w0++000");
        Check.due("-000", x.reading(0), 1000);
        Check.due("+000", x.reading(1), 1000);
        Check.due("both are alike", x.squares(false, true), 0);
    }

    private static void readingsByText() throws Exception {
        Check.says("a sign (+ or -), three figures (the READING; -000 is 0)");
        int[] sizes = {0, 1, 9, 10, 99, 100, 101, 110, 998, 999};
        for (int size : sizes) {
            String figures = "" + size / 100 + size / 10 % 10 + size % 10;
            Check.due("+" + figures, Check.roomOf("B100w0++" + figures).reading(0), 1000 + size);
            Check.due("-" + figures, Check.roomOf("B100w0+-" + figures).reading(0), 1000 - size);
        }
    }

    private static void withoutBlanks() throws Exception {
        Check.says("(Without blanks.)");
        String whole = "B250w+0-+012w-++-034";
        for (int place = 0; place <= whole.length(); place++) {
            faultOf(whole.substring(0, place) + " " + whole.substring(place), place);
        }
    }

    private static void whateverCameBehind() throws Exception {
        Check.says("FAULT: the place of the first letter by which THE TEXT can be no ROOM, whatever came behind it");
        String whole = "B450w+-0+0+012w-+-00-100";
        for (int place = 0; place < whole.length(); place++) {
            faultOf(whole.substring(0, place) + "x" + whole.substring(place + 1), place);
            faultOf(whole.substring(0, place) + "x" + whole.substring(place), place);
            faultOf(whole.substring(0, place) + "xx", place);
        }
        faultOf("x" + "x".repeat(89), 0);
        BalanceRoom x = Check.texted("B100w0++00");
        x.write('x');
        for (int more = 0; more < 5; more++) {
            Check.due("it stays the first", x.fault(), 10);
            x.write("w00+0".charAt(more));
        }
    }

    private static void ninthW() throws Exception {
        Check.says("(its length set aside; so a ninth w)");
        for (int n = 1; n <= 4; n++) {
            String eight = eightWeighings(n);
            faultOf(eight, NONE);
            faultOf(eight + "w", eight.length());
            faultOf(eight + "w0", eight.length());
            faultOf(eight + "x", eight.length());
            faultOf((eight + "w" + "0".repeat(n + 1) + "+000" + "0".repeat(90)).substring(0, 90), eight.length());
        }
    }

    private static void onlyNotAtItsEnd() throws Exception {
        Check.says("its length, if it is only not at its end; NONE: none.");
        for (int n = 1; n <= 4; n++) {
            String eight = eightWeighings(n);
            for (int length = 0; length <= eight.length(); length++) {
                boolean ends = length >= 4 && (length - 4) % (n + 6) == 0;
                faultOf(eight.substring(0, length), ends ? NONE : length);
            }
        }
    }

    // ---- promises 1 to 7

    private static void promise1() throws Exception {
        Check.says("`BalanceRoom()`: One weight, a master of 0, no weighings.");
        BalanceRoom x = new BalanceRoom();
        Check.due("it stands so", Check.standing(x), "N1 M0");
        Check.due("nothing else is there", Check.drained(new BalanceRoom()),
                "text 0 fault 0 seed 0 acts 0 | N1 M0 | again -3 N1 M0 | again -3 N1 M0 | room -3 N1 M0 | wiped 0");
        x.weigh(1, 5);
        Check.due("another object has its own", new BalanceRoom().count(3), 0);
    }

    private static void promise2() throws Exception {
        Check.says("A letter (0 to 255) comes behind THE TEXT: how long it is. OUTSIDE; FULL: there are 90.");
        for (int letter = 0; letter <= 255; letter++) Check.due("letter " + letter, new BalanceRoom().write(letter), 1);
        for (int letter : new int[] {-1, -66, 256, 257, 256 + 66, 65536 + 66, Check.LEAST, Check.MOST}) {
            BalanceRoom x = new BalanceRoom();
            Check.due("letter " + letter, x.write(letter), OUTSIDE);
            Check.due("nothing came", x.count(0), 0);
        }
        BalanceRoom x = new BalanceRoom();
        for (int many = 1; many <= 90; many++) Check.due("how long", x.write(many), many);
        for (int more = 0; more < 3; more++) Check.due("full", x.write('B'), FULL);
        Check.due("wiped, there is room again", x.wipe(), 90);
        Check.due("the first", x.write('B'), 1);
        Check.due("it is that letter", x.fault(), 1);
    }

    private static void promise3() throws Exception {
        Check.says("THE TEXT is empty: how long it was.");
        BalanceRoom x = new BalanceRoom();
        Check.due("it was empty", x.wipe(), 0);
        x.write('B');
        Check.due("one letter", x.wipe(), 1);
        Check.due("empty", x.count(0), 0);
        Check.due("empty: it is only not at its end", x.fault(), 0);
        Check.write(x, "x".repeat(90));
        Check.due("full", x.wipe(), 90);
        Check.due("and at once again", x.wipe(), 0);
        BalanceRoom y = Check.roomOf("B307w+0-0+005");
        y.keep(0);
        y.master(8);
        y.seed(6);
        y.wipe();
        Check.due("nothing else changes", Check.drained(y), "text 0 fault 0 seed 6 acts 1 | N3 M8 1020:5 | undone N3 M7 1020:5"
                + " | again 1 N3 M7 1020:5 | again -3 N3 M7 1020:5 | room -3 N3 M7 1020:5 | wiped 0");
    }

    private static void promise4() throws Exception {
        Check.says("`int fault()`: FAULT; NONE.");
        faultOf("", 0);
        faultOf("B100", NONE);
        BalanceRoom x = Check.texted("B499w00000+000");
        x.wipe();
        Check.write(x, "B1");
        Check.due("what was wiped does not count", x.fault(), 2);
        Check.write(x, "00w00+0");
        Check.due("nor letters that stood behind", x.fault(), 9);
    }

    private static void promise5stays() throws Exception {
        Check.says("THE TEXT (that stays as it is) is THE ROOM (THE ROW of ACTS is empty, what was kept is gone; THE SEED stays)");
        BalanceRoom x = Check.texted("B242w+0-+012");
        x.seed(-9);
        x.weigh(1, 1);
        x.keep(0);
        x.keep(1);
        Check.due("how many weighings", x.room(), 1);
        Check.due("all of it", Check.drained(x), "text 12 fault -9 seed -9 acts 0 | N2 M42 102:12 | again -3 N2 M42 102:12"
                + " | again -3 N2 M42 102:12 | room 1 N2 M42 102:12 | wiped 12");
        BalanceRoom y = Check.texted("B100");
        Check.due("no weighings", y.room(), 0);
        Check.write(y, "w0++007");
        Check.due("the text goes on", y.room(), 1);
        Check.due("its reading", y.reading(0), 1007);
    }

    private static void promise5state() throws Exception {
        Check.says("how many WEIGHINGS. STATE: a FAULT.");
        Check.due("an empty text", new BalanceRoom().room(), STATE);
        Check.due("not at its end", Check.texted("B10").room(), STATE);
        Check.due("at its end", Check.texted("B100").room(), 0);
        Check.due("one letter too many", Check.texted("B1000").room(), STATE);
        Check.due("eight", Check.texted(eightWeighings(4)).room(), 8);
        Check.due("nine", Check.texted(eightWeighings(1) + "w00+000").room(), STATE);
        BalanceRoom x = Check.roomOf("B499" + "w+++++-999".repeat(8));
        x.wipe();
        Check.write(x, "B107w0++003");
        Check.due("a smaller room behind a greater one", x.room(), 1);
        Check.due("only that", Check.standing(x), "N1 M7 1:3");
        Check.due("codes of the old N are none", x.weigh(100, 0), OUTSIDE);
    }

    private static void promises6and7() throws Exception {
        Check.says("The CODE of a WEIGHING. UNKNOWN.");
        BalanceRoom x = Check.roomOf("B200w0+-+001w-00-999");
        int[] none = {-1, 2, 7, 8, Check.LEAST, Check.MOST};
        Check.due("the first", x.code(0), 12);
        Check.due("the last", x.code(1), 200);
        for (int t : none) Check.due("code of " + t, x.code(t), UNKNOWN);
        Check.due("none at all", new BalanceRoom().code(0), UNKNOWN);
        Check.says("The READING of a WEIGHING, and 1000. UNKNOWN.");
        Check.due("the first", x.reading(0), 1001);
        Check.due("the least", x.reading(1), 1);
        x.read(0, 999);
        Check.due("the greatest", x.reading(0), 1999);
        for (int t : none) Check.due("reading of " + t, x.reading(t), UNKNOWN);
        Check.due("none at all", new BalanceRoom().reading(0), UNKNOWN);
        x.take(1);
        Check.due("taken, its code is gone", x.code(1), UNKNOWN);
        Check.due("and its reading", x.reading(1), UNKNOWN);
    }

    public static void main(String[] args) throws Exception {
        weightsOneToFour();
        masterToNinetyNine();
        neverMoreThanEight();
        pansAndReadings();
        codeFigures();
        codeNoughtsLeftOut();
        textOf90();
        eachLetterAtEachPlace();
        noneOrMoreWeighings();
        minusNoughtIsNought();
        readingsByText();
        withoutBlanks();
        whateverCameBehind();
        ninthW();
        onlyNotAtItsEnd();
        promise1();
        promise2();
        promise3();
        promise4();
        promise5stays();
        promise5state();
        promises6and7();
        Check.end();
    }
}
