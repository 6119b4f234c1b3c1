/** Each promise by itself: ordinary calls, the edges that the document names, wrong ones; all reckoned by hand. */
public final class PromisesTest {
    private static final int UNKNOWN = -1, OUTSIDE = -2, STATE = -3, FULL = -4, NONE = -9;
    private static final int LEAST = Integer.MIN_VALUE, MOST = Integer.MAX_VALUE;

    private static int wrong = 0;

    private static void due(String what, long got, long want) {
        if (got != want) {
            wrong++;
            System.out.println(what + ": answered " + got + ", due is " + want);
        }
    }

    private static void fraction(String what, long above, long below, long... want) {
        due(what + ", above", above, want[0]);
        due(what + ", below", below, want[1]);
    }

    private static BalanceRoom texted(String text) {
        BalanceRoom x = new BalanceRoom();
        write(x, text);
        return x;
    }

    private static void write(BalanceRoom x, String text) {
        for (int i = 0; i < text.length(); i++) x.write(text.charAt(i));
    }

    private static BalanceRoom roomOf(String text) {
        BalanceRoom x = texted(text);
        if (x.room() < 0) due("the text " + text + " is a room", 0, 1);
        return x;
    }

    private static void faultOf(String text, int want) {
        BalanceRoom x = texted(text);
        due("fault of " + text, x.fault(), want);
        due("room of " + text, x.room() >= 0 ? 0 : x.room(), want == NONE ? 0 : STATE);
    }

    private static void promise1aNewObject() {
        BalanceRoom x = new BalanceRoom();
        int[] want = {0, 1, 0, 0, 0};
        for (int what = 0; what < 5; what++) due("1: count " + what, x.count(what), want[what]);
        due("1: no weighing", x.code(0), UNKNOWN);
        due("1: the seed is 0", x.seed(3), 0);
        due("1: nothing kept", x.again(0), STATE);
        due("1: nothing to undo", x.undo(), STATE);
    }

    private static void promise2write() {
        BalanceRoom x = new BalanceRoom();
        for (int i = 1; i <= 90; i++) {
            due("2: below", x.write(-1), OUTSIDE);
            due("2: above", x.write(256), OUTSIDE);
            due("2: letter " + i, x.write(i % 2 == 0 ? 255 : 0), i);
        }
        due("2: full", x.write(48), FULL);
        due("2: outside ahead of full", x.write(256), OUTSIDE);
        due("2: least", x.write(LEAST), OUTSIDE);
        due("2: 90 are there", x.count(0), 90);
    }

    private static void promise3wipe() {
        BalanceRoom x = texted("B10");
        due("3: three were there", x.wipe(), 3);
        due("3: none are left", x.wipe(), 0);
        due("3: count", x.count(0), 0);
        due("3: the fault is at 0 then", x.fault(), 0);
        due("3: it begins anew", x.write('B'), 1);
        BalanceRoom y = roomOf("B207w+0-+001");
        y.wipe();
        due("3: the room stays", y.code(0), 102);
    }

    private static void promise4fault() {
        String[] heads = {"", "B", "B1", "B10", "B100w", "B100w+", "B100w+-", "B100w+-+", "B100w+-+1", "B100w+-+12"};
        for (String text : heads) faultOf(text, text.length());
        String[] rooms = {"B100", "B499", "B100w00+000", "B200w0+--999", "B300w0+-0-001", "B400w0+-0+-123w-----+000"};
        for (String text : rooms) faultOf(text, NONE);
        String[] bad = {"b", "0", "B0", "B5", "B:", "B1x", "B1-", "B1:", "B1/", "B10+", "B100W", "B1000", "B100B", "B100ww",
            "B100w1", "B100w*", "B100w+w", "B100w+-0", "B100w+--+", "B100w+-,", "B100w+-+1+", "B100w+-+12w", "B100w+-+12:",
            "B100w+-+123+", "B100w+-+1234", "B200w+-0w", "B200w+-00", "B300w+-0+0", "B400w+-0+-w", "B400w+-0+-0", "B100 "};
        for (String text : bad) {
            faultOf(text, text.length() - 1);
            faultOf(text + "w00+000", text.length() - 1);
        }
        for (int n = 1; n <= 4; n++) {
            String eight = "B" + n + "00" + ("w" + "00000".substring(0, n + 1) + "+000").repeat(8);
            faultOf(eight, NONE);
            faultOf(eight + "w", eight.length());
            faultOf(eight + "w00", eight.length());
            faultOf(eight + "x", eight.length());
            faultOf(eight.substring(0, eight.length() - 1), eight.length() - 1);
        }
        BalanceRoom x = texted("B3");
        x.wipe();
        write(x, "B100w0");
        due("4: only what is there counts", x.fault(), 6);
    }

    private static void promise5room() {
        BalanceRoom x = texted("B345w+-0--000w0+0-+012w000+-999");
        due("5: weighings", x.room(), 3);
        due("5: the text stays", x.count(0), 31);
        due("5: N", x.count(1), 3);
        due("5: M", x.count(2), 45);
        due("5: the first code", x.code(0), 1202);
        due("5: the last code", x.code(2), 1);
        due("5: -000 is 0", x.reading(0), 1000);
        due("5: a reading above 0", x.reading(1), 1012);
        due("5: a reading below 0", x.reading(2), 1);
        x.seed(77);
        x.keep(0);
        x.keep(1);
        x.master(5);
        due("5: again", x.room(), 3);
        due("5: the row of acts is empty", x.count(4), 0);
        due("5: nothing to undo", x.undo(), STATE);
        due("5: what was kept is gone", x.again(0), STATE);
        due("5: and the other", x.again(1), STATE);
        due("5: M as told", x.count(2), 45);
        due("5: the seed stays", x.seed(0), 77);
        x.keep(1);
        x.master(9);
        x.write('x');
        due("5: a fault", x.room(), STATE);
        due("5: refused, the acts stay", x.count(4), 1);
        due("5: refused, M stays", x.count(2), 9);
        due("5: refused, what was kept stays", x.again(1), 3);
        due("5: an empty room", roomOf("B299").count(3), 0);
        due("5: an empty text", new BalanceRoom().room(), STATE);
    }

    private static void promise6and7codeAndReading() {
        BalanceRoom x = roomOf("B400w----+-999w0000-+999w00000-000");
        int[] codes = {22221, 2, 0};
        int[] readings = {1, 1999, 1000};
        for (int t = 0; t < 3; t++) {
            due("6: code " + t, x.code(t), codes[t]);
            due("7: reading " + t, x.reading(t), readings[t]);
        }
        for (int t : new int[] {-1, 3, 8, LEAST, MOST}) {
            due("6: code " + t, x.code(t), UNKNOWN);
            due("7: reading " + t, x.reading(t), UNKNOWN);
        }
    }

    private static void promise8weigh() {
        BalanceRoom x = roomOf("B200");
        for (int code : new int[] {-1, -102, 3, 13, 30, 103, 300, 223, 1000, 1111, LEAST, MOST, 1000000000}) {
            due("8: no code " + code, x.weigh(code, 0), OUTSIDE);
        }
        for (int reading : new int[] {-1000, 1000, LEAST, MOST}) due("8: reading " + reading, x.weigh(102, reading), OUTSIDE);
        int[] codes = {0, 1, 2, 10, 102, 222, 111, 20};
        for (int i = 0; i < 8; i++) due("8: weighing " + i, x.weigh(codes[i], i % 2 == 0 ? 999 : -999), i + 1);
        for (int i = 0; i < 8; i++) {
            due("8: its code", x.code(i), codes[i]);
            due("8: its reading", x.reading(i), i % 2 == 0 ? 1999 : 1);
        }
        due("8: full", x.weigh(0, 0), FULL);
        due("8: outside ahead of full", x.weigh(3, 0), OUTSIDE);
        due("8: reading ahead of full", x.weigh(0, 1000), OUTSIDE);
        due("8: eight acts", x.count(4), 8);
        due("8: four weights", roomOf("B400").weigh(22222, 5), 1);
        due("8: one weight", new BalanceRoom().weigh(100, 5), OUTSIDE);
    }

    private static void promise9take() {
        BalanceRoom x = roomOf("B100w+0+001w0++002w-0+003w0-+004");
        due("9: three are left", x.take(1), 3);
        int[] codes = {10, 20, 2};
        int[] readings = {1001, 1003, 1004};
        for (int t = 0; t < 3; t++) {
            due("9: later ones are one less", x.code(t), codes[t]);
            due("9: with their readings", x.reading(t), readings[t]);
        }
        due("9: the last place is gone", x.code(3), UNKNOWN);
        for (int t : new int[] {-1, 3, LEAST, MOST}) due("9: take " + t, x.take(t), UNKNOWN);
        due("9: two", x.take(2), 2);
        due("9: one", x.take(0), 1);
        due("9: the one left", x.code(0), 20);
        due("9: none", x.take(0), 0);
        due("9: no more", x.take(0), UNKNOWN);
        due("9: four acts", x.count(4), 4);
    }

    private static void promise10swap() {
        BalanceRoom x = roomOf("B100w+0+001w0++002w-0+003");
        due("10: the code at the first place", x.swap(0, 2), 20);
        due("10: it went there", x.code(2), 10);
        due("10: with its reading", x.reading(2), 1001);
        due("10: and the other", x.reading(0), 1003);
        due("10: named the other way", x.swap(2, 0), 20);
        due("10: it is there", x.code(2), 20);
        due("10: both are one", x.swap(1, 1), STATE);
        due("10: no such one", x.swap(3, 0), UNKNOWN);
        due("10: no such other", x.swap(0, 3), UNKNOWN);
        due("10: unknown ahead of state", x.swap(3, 3), UNKNOWN);
        due("10: below", x.swap(-1, -1), UNKNOWN);
        due("10: least", x.swap(0, LEAST), UNKNOWN);
        due("10: two acts", x.count(4), 2);
    }

    private static void promise11read() {
        BalanceRoom x = roomOf("B100w+0+001w0+-002");
        due("11: what it was", x.read(1, -999), 998);
        due("11: what it is", x.reading(1), 1);
        due("11: the same once more is an act", x.read(1, -999), 1);
        due("11: the other stays", x.reading(0), 1001);
        due("11: above", x.read(0, 1000), OUTSIDE);
        due("11: below", x.read(0, -1000), OUTSIDE);
        due("11: least", x.read(0, LEAST), OUTSIDE);
        due("11: unknown", x.read(2, 0), UNKNOWN);
        due("11: unknown ahead of outside", x.read(-1, 1000), UNKNOWN);
        due("11: two acts", x.count(4), 2);
        due("11: the greatest", x.read(0, 999), 1001);
    }

    private static void promise12master() {
        BalanceRoom x = roomOf("B142w+++050");
        due("12: what M was", x.master(99), 42);
        due("12: what M is", x.count(2), 99);
        due("12: above", x.master(100), OUTSIDE);
        due("12: below", x.master(-1), OUTSIDE);
        due("12: M stays", x.master(0), 99);
        due("12: two acts", x.count(4), 2);
        due("12: a weight is what is read less the master", x.value(0, false, true), 50);
        x.master(8);
        due("12: by the master told anew", x.value(0, false, true), 42);
    }

    private static void promise13undo() {
        BalanceRoom x = roomOf("B130w0++011w+0-022w+++033");
        x.weigh(12, 44);
        x.take(1);
        x.swap(0, 2);
        x.read(0, 55);
        x.master(31);
        due("13: the master", x.undo(), 4);
        due("13: M", x.count(2), 30);
        due("13: the reading", x.undo(), 3);
        due("13: it is as it was", x.reading(0), 1044);
        due("13: the swap", x.undo(), 2);
        due("13: code", x.code(0), 1);
        due("13: reading", x.reading(2), 1044);
        due("13: the taking", x.undo(), 1);
        due("13: its place", x.code(1), 10);
        due("13: its reading", x.reading(1), 978);
        due("13: four again", x.count(3), 4);
        due("13: the weighing", x.undo(), 0);
        due("13: three", x.count(3), 3);
        due("13: none is left", x.undo(), STATE);
        for (int m = 1; m <= 16; m++) {
            x.master(m);
            due("13: never more than 14", x.count(4), Math.min(m, 14));
        }
        x.master(100);
        x.take(9);
        due("13: what is refused is no act", x.count(4), 14);
        for (int left = 13; left >= 0; left--) {
            due("13: left", x.undo(), left);
            due("13: M by then", x.count(2), left + 2);
        }
        due("13: the first ones are forgotten", x.undo(), STATE);
        due("13: so M is 2", x.count(2), 2);
        x.master(50);
        x.weigh(1, 1);
        due("13: undone and done anew", x.undo(), 1);
        due("13: M then", x.count(2), 50);
    }

    private static void promise14rank() {
        due("14: no weighings", roomOf("B400").rank(true), 0);
        due("14: nothing on it", roomOf("B200w000+001w+00+001").rank(false), 0);
        due("14: t alone", roomOf("B200w000+001w+00+001").rank(true), 1);
        due("14: t of the first is 0", roomOf("B100w0++001").rank(true), 1);
        due("14: two like ones", roomOf("B200w0+-+001w0-++009").rank(false), 1);
        due("14: with drift", roomOf("B200w0+-+001w0-++009").rank(true), 2);
        due("14: three of four", roomOf("B400w0++00+001w00++0+001w0+0-0+001").rank(false), 2);
        due("14: full", roomOf("B400w0+000+001w00+00+001w000+0+001w0000++001w0+++++001").rank(true), 5);
        due("14: t is a sum of the others", roomOf("B200w0+0+000w0+++000w0-++000").rank(true), 3);
        due("14: t as one column is", roomOf("B100w+0+000w0++000").rank(true), 1);
    }

    private static void promise15value() {
        BalanceRoom x = roomOf("B210w++0+030w0+++050w0+-+001");
        fraction("15: weight 0", x.value(0, false, true), x.value(0, false, false), 71, 3);
        fraction("15: weight 1", x.value(1, false, true), x.value(1, false, false), 49, 2);
        fraction("15: weight 0 with drift", x.value(0, true, true), x.value(0, true, false), 20, 1);
        fraction("15: weight 1 with drift", x.value(1, true, true), x.value(1, true, false), 79, 3);
        fraction("15: drift", x.value(2, true, true), x.value(2, true, false), 11, 3);
        due("15: drift without drift", x.value(2, false, true), UNKNOWN);
        due("15: no such", x.value(3, true, true), UNKNOWN);
        due("15: below", x.value(-1, true, false), UNKNOWN);
        due("15: least", x.value(LEAST, false, false), UNKNOWN);
        x.take(0);
        due("15: two are enough without drift", x.value(0, false, false), 2);
        due("15: not determined with drift", x.value(0, true, true), STATE);
        due("15: told likewise below", x.value(2, true, false), STATE);
        due("15: unknown ahead of state", x.value(3, true, true), UNKNOWN);
        fraction("15: 0 is 0 and 1", roomOf("B150w+-+050").value(0, false, true), roomOf("B150w+-+050").value(0, false, false), 0, 1);
        fraction("15: below 0", roomOf("B100w0++001w0-+002").value(0, false, true), roomOf("B100w0++001w0-+002").value(0, false, false), -1, 2);
    }

    private static void promise16and17spreadAndTotal() {
        BalanceRoom x = roomOf("B210w++0+030w0+++050w0+-+001");
        fraction("16: weight 0", x.spread(0, false, true), x.spread(0, false, false), 1, 3);
        fraction("16: weight 1", x.spread(1, false, true), x.spread(1, false, false), 1, 2);
        fraction("17: total", x.total(false, true), x.total(false, false), 5, 6);
        fraction("16: weight 0 with drift", x.spread(0, true, true), x.spread(0, true, false), 1, 1);
        fraction("16: weight 1 with drift", x.spread(1, true, true), x.spread(1, true, false), 2, 3);
        fraction("16: drift", x.spread(2, true, true), x.spread(2, true, false), 2, 3);
        fraction("17: total with drift, drift set aside", x.total(true, true), x.total(true, false), 5, 3);
        due("16: drift without drift", x.spread(2, false, true), UNKNOWN);
        due("16: no such", x.spread(3, true, true), UNKNOWN);
        due("16: below", x.spread(-1, false, true), UNKNOWN);
        x.take(2);
        due("16: not determined", x.spread(2, true, true), STATE);
        due("17: not determined", x.total(true, false), STATE);
        due("16: unknown ahead of state", x.spread(3, true, true), UNKNOWN);
        due("17: none at all", new BalanceRoom().total(false, true), STATE);
        due("17: determined without drift", x.total(false, true), 3);
    }

    private static void promise18and19restAndSquares() {
        BalanceRoom x = roomOf("B107w-+-002w-++003w-++009w00-004");
        fraction("18: rest 0", x.rest(0, false, true), x.rest(0, false, false), -16, 3);
        fraction("18: rest 1", x.rest(1, false, true), x.rest(1, false, false), -1, 3);
        fraction("18: rest 2", x.rest(2, false, true), x.rest(2, false, false), 17, 3);
        fraction("18: nothing on it", x.rest(3, false, true), x.rest(3, false, false), -4, 1);
        fraction("19: squares", x.squares(false, true), x.squares(false, false), 230, 3);
        due("18: no such", x.rest(4, false, true), UNKNOWN);
        due("18: below", x.rest(-1, true, true), UNKNOWN);
        BalanceRoom y = roomOf("B100w0++010w0++012w0++014w00+009");
        fraction("18: rest less t D", y.rest(3, true, true), y.rest(3, true, false), 6, 11);
        BalanceRoom z = roomOf("B100w0++010w0++012w0++014");
        fraction("19: all by drift", z.squares(true, true), z.squares(true, false), 0, 1);
        fraction("18: nothing left over", z.rest(1, true, true), z.rest(1, true, false), 0, 1);
        fraction("19: without drift", z.squares(false, true), z.squares(false, false), 8, 1);
        due("19: not determined", roomOf("B200w0+0+001").squares(false, true), STATE);
        due("19: with drift", roomOf("B100w0++001").squares(true, false), STATE);
        due("18: not determined", roomOf("B100w0++001").rest(0, true, true), STATE);
        due("18: unknown ahead of state", roomOf("B100w0++001").rest(1, true, true), UNKNOWN);
    }

    private static void promise20next() {
        due("20: one weight", new BalanceRoom().next(false), 1);
        due("20: drift needs two", new BalanceRoom().next(true), NONE);
        due("20: two can't be one", roomOf("B200").next(false), NONE);
        due("20: the other one", roomOf("B200w0+0+001").next(false), 1);
        due("20: the least of like ones", roomOf("B200w0+++001").next(false), 12);
        due("20: t of the next is 1", roomOf("B100w0++001").next(true), 0);
        due("20: nothing to weigh, but for t", roomOf("B100w+-+500").next(true), 0);
        due("20: a zero column", roomOf("B100w00+001").next(true), NONE);
        BalanceRoom x = roomOf("B100" + "w0++001".repeat(7));
        due("20: an eighth", x.next(false), 1);
        due("20: nothing changed", x.count(3), 7);
        x.weigh(0, 0);
        due("20: full", x.next(false), FULL);
        due("20: full with drift", x.next(true), FULL);
    }

    private static void promise21better() {
        due("21: none", new BalanceRoom().better(), STATE);
        due("21: not determined with drift", roomOf("B100w0++001").better(), STATE);
        due("21: weights where t is 0 and 1", roomOf("B100w00+001w0++001w0++001w00+001").better(), 2);
        due("21: none is better", roomOf("B100w0++001w0++001w00+001w00+001").better(), NONE);
        due("21: determined no more is none such", roomOf("B100w0++001w00+001").better(), NONE);
        due("21: all alike", roomOf("B100w0++001w0++001w0-+001").better(), NONE);
    }

    private static void promise22and23doubtfulAndWrong() {
        BalanceRoom x = roomOf("B107w-++002w-++002w-++005w-++002");
        due("22: doubtful", x.doubtful(false), 2);
        due("23: wrong", x.wrong(false), 4);
        due("22: of like ones the least", roomOf("B100w0++001w0++003").doubtful(false), 0);
        due("23: each may be", roomOf("B100w0++001w0++003").wrong(false), 3);
        due("23: none is, with drift, if two are needed", roomOf("B100w0++001w0++003").wrong(true), 0);
        due("22: none with drift", roomOf("B100w0++001w0++003").doubtful(true), NONE);
        due("22: numbers stay", roomOf("B100w0++010w0++099w0++014w0++016").wrong(true), 2);
        due("22: doubtful with drift", roomOf("B100w0++010w0++099w0++014w0++016").doubtful(true), 1);
        due("22: needed ones are not doubtful", roomOf("B200w0+0+900w00++005w00++006w00++009").doubtful(false), 3);
        due("22: each is needed", roomOf("B200w0+0+001w00++001").doubtful(false), NONE);
        due("22: no weighings", new BalanceRoom().doubtful(false), NONE);
        due("23: no weighings", new BalanceRoom().wrong(false), 0);
        due("23: the eighth bit", roomOf("B100" + "w0++004".repeat(7) + "w0++005").wrong(false), 128);
        due("23: all is well", roomOf("B100" + "w0++004".repeat(8)).wrong(true), 255);
    }

    private static void promise24judge() {
        BalanceRoom x = roomOf("B210w++0+030w0+++050w0+++050");
        due("24: swapped, taken, asked", x.judge(4, 1010200030204100L), 3);
        due("24: all is so", x.judge(4, 1010200030204200L), NONE);
        due("24: rank by then", x.judge(3, 200020004100L), NONE);
        due("24: nothing changed", x.rank(false), 2);
        due("24: nothing changed", x.code(0), 110);
        due("24: no act", x.count(4), 0);
        due("24: the value", x.judge(1, 3020), NONE);
        due("24: of the other", x.judge(1, 3130), NONE);
        due("24: another value", x.judge(1, 3021), 0);
        due("24: no such weight", x.judge(1, 3230), 0);
        due("24: nor one that what is left over could pass for", x.judge(1, 3200), 0);
        due("24: the master told", x.judge(2, 60113019), NONE);
        due("24: the value that was", x.judge(2, 60113020), 1);
        due("24: 6 has a 0", x.judge(1, 6111), 0);
        due("24: rank", x.judge(1, 4200), NONE);
        due("24: rank, third figure", x.judge(1, 4210), 0);
        due("24: rank, last figure", x.judge(1, 4201), 0);
        due("24: doubtful", x.judge(1, 5100), NONE);
        due("24: not that one", x.judge(1, 5200), 0);
        due("24: doubtful, third figure", x.judge(1, 5110), 0);
        due("24: doubtful, last figure", x.judge(1, 5101), 0);
        due("24: swapped with itself", x.judge(1, 1110), 0);
        due("24: swapped, last figure", x.judge(1, 1011), 0);
        due("24: swapped, no such", x.judge(1, 1030), 0);
        due("24: swapped, no such first", x.judge(1, 1300), 0);
        due("24: taken, no such", x.judge(1, 2300), 0);
        due("24: taken, last figure", x.judge(1, 2001), 0);
        due("24: taken, third figure", x.judge(1, 2010), 0);
        due("24: taken till none is left", x.judge(4, 2000200020004000L), NONE);
        due("24: taken once too often", x.judge(4, 2000200020002000L), 3);
        due("24: one less by then", x.judge(2, 20002200), 1);
        for (int kind : new int[] {0, 7, 8, 9}) due("24: kind " + kind, x.judge(1, 1000 * kind), 0);
        due("24: noughts ahead are told", x.judge(2, 4200), 0);
        due("24: n 0", x.judge(0, 0), OUTSIDE);
        due("24: n 5", x.judge(5, 4200), OUTSIDE);
        due("24: n least", x.judge(LEAST, 0), OUTSIDE);
        due("24: row below 0", x.judge(1, -1), OUTSIDE);
        due("24: row least", x.judge(4, Long.MIN_VALUE), OUTSIDE);
        due("24: four figures at most", x.judge(1, 10000), OUTSIDE);
        due("24: twelve at most", x.judge(3, 1000000000000L), OUTSIDE);
        due("24: sixteen at most", x.judge(4, 10000000000000000L), OUTSIDE);
        due("24: sixteen", x.judge(4, 9999999999999999L), 0);
        due("24: row greatest", x.judge(4, Long.MAX_VALUE), OUTSIDE);
        due("24: not determined", roomOf("B200w0+0+007").judge(1, 3007), 0);
        due("24: a weighing that is not is not doubtful", new BalanceRoom().judge(1, 5900), 0);
        due("24: values beyond two figures", roomOf("B100w0++107").judge(1, 3007), 0);
        due("24: values below 0", roomOf("B100w0+-007").judge(1, 3007), 0);
        due("24: no whole value", roomOf("B100w0++007w0++008").judge(1, 3007), 0);
    }

    private static void promise25share() {
        BalanceRoom x = roomOf("B200w0+0+001w0+0+002w00++003w000+004");
        fraction("25: one of two like ones", x.share(0, false, true), x.share(0, false, false), 1, 2);
        fraction("25: alone", x.share(2, false, true), x.share(2, false, false), 1, 1);
        fraction("25: nothing on it", x.share(3, false, true), x.share(3, false, false), 0, 1);
        fraction("25: its t", x.share(3, true, true), x.share(3, true, false), 2, 3);
        due("25: no such", x.share(4, true, true), UNKNOWN);
        due("25: below", x.share(-1, false, false), UNKNOWN);
        BalanceRoom y = roomOf("B100" + "w0++004".repeat(8));
        fraction("25: one of eight", y.share(7, false, true), y.share(7, false, false), 1, 8);
        fraction("25: one of eight with drift", y.share(0, true, true), y.share(0, true, false), 1, 4);
        due("25: none", new BalanceRoom().share(0, false, true), UNKNOWN);
    }

    private static void promise26lost() {
        BalanceRoom x = roomOf("B100w0++001w0++002w0++003");
        fraction("26: one of three", x.lost(3, false, true), x.lost(3, false, false), 973, 1000);
        fraction("26: two of three", x.lost(5, true, true), x.lost(5, true, false), 1, 2);
        fraction("26: none is lost", x.lost(0, true, true), x.lost(0, true, false), 1, 1);
        fraction("26: all are lost", x.lost(10, false, true), x.lost(10, false, false), 0, 1);
        due("26: above", x.lost(11, false, true), OUTSIDE);
        due("26: below", x.lost(-1, false, false), OUTSIDE);
        fraction("26: not determined", roomOf("B200w0+0+001").lost(0, false, true), roomOf("B200w0+0+001").lost(0, false, false), 0, 1);
        BalanceRoom y = roomOf("B100" + "w0++004".repeat(8));
        fraction("26: eight", y.lost(1, false, true), y.lost(1, false, false), 99999999, 100000000);
        BalanceRoom z = roomOf("B100w0++004w00+004w0++004");
        fraction("26: numbers t stay", z.lost(5, true, true), z.lost(5, true, false), 1, 2);
    }

    private static void promise27seed() {
        BalanceRoom x = new BalanceRoom();
        due("27: 0 at first", x.seed(Long.MIN_VALUE), 0);
        due("27: what it was", x.seed(-5), Long.MIN_VALUE);
        due("27: and again", x.seed(1), -5);
    }

    private static void promise28drawn() {
        BalanceRoom x = roomOf("B100w0++100w0++100w0++100w0++200");
        due("28: far off stays doubtful", x.drawn(20), 20);
        x.seed(0);
        due("28: one", x.drawn(1), 1);
        due("28: the seed went on once", x.seed(0), 1442695040888963407L);
        due("28: two", x.drawn(2), 2);
        due("28: the seed went on twice", x.seed(0), 1442695040888963407L * 6364136223846793005L + 1442695040888963407L);
        due("28: 0", x.drawn(0), OUTSIDE);
        due("28: 21", x.drawn(21), OUTSIDE);
        due("28: least", x.drawn(LEAST), OUTSIDE);
        due("28: refused, the seed stays", x.seed(0), 0);
        due("28: readings stay", x.reading(3), 1200);
        due("28: none stays none", new BalanceRoom().drawn(20), 20);
        BalanceRoom y = roomOf("B100w0++010w0++010w0++010w0++010w0++010");
        due("28: all are alike now", y.doubtful(false), 0);
        // The seed 0 draws v with the lowest bits 01 10 11 11 11: weighing 3 is 1 more, all others as they stand.
        due("28: drawn unlike", y.drawn(1), 0);
        y.swap(0, 3);
        y.read(3, 9);
        y.seed(0);
        due("28: drawn back", y.doubtful(false), 3);
        due("28: unlike again", y.drawn(1), 0);
    }

    private static void promise29and30keepAndAgain() {
        BalanceRoom x = roomOf("B130w0++011w+0-022");
        due("29: keep", x.keep(0), 2);
        x.master(31);
        x.take(0);
        due("29: keep in the other", x.keep(1), 1);
        due("29: it is no act", x.count(4), 2);
        x.weigh(22, 7);
        x.read(0, 5);
        due("30: go on from the first", x.again(0), 2);
        due("30: M", x.count(2), 30);
        due("30: code", x.code(0), 1);
        due("30: reading", x.reading(1), 978);
        due("30: the row of acts is empty", x.count(4), 0);
        due("30: nothing to undo", x.undo(), STATE);
        x.read(0, 77);
        due("30: go on from the other", x.again(1), 1);
        due("30: its M", x.count(2), 31);
        due("30: its reading", x.reading(0), 978);
        due("30: the first is still kept", x.again(0), 2);
        due("30: as it was kept", x.reading(0), 1011);
        x.take(0);
        x.take(0);
        due("29: kept anew", x.keep(0), 0);
        due("30: none", x.again(0), 0);
        for (int slot : new int[] {-1, 2, LEAST, MOST}) {
            due("29: no such place", x.keep(slot), UNKNOWN);
            due("30: no such place", x.again(slot), UNKNOWN);
        }
        BalanceRoom y = new BalanceRoom();
        y.master(3);
        due("30: none were kept", y.again(1), STATE);
        due("30: refused, the acts stay", y.count(4), 1);
    }

    private static void promise31count() {
        BalanceRoom x = roomOf("B345w0+0-+012w0++++012");
        x.master(46);
        int[] want = {22, 3, 46, 2, 1};
        for (int what = 0; what < 5; what++) due("31: count " + what, x.count(what), want[what]);
        for (int what : new int[] {-1, 5, LEAST, MOST}) due("31: count " + what, x.count(what), OUTSIDE);
    }

    public static void main(String[] args) {
        promise1aNewObject();
        promise2write();
        promise3wipe();
        promise4fault();
        promise5room();
        promise6and7codeAndReading();
        promise8weigh();
        promise9take();
        promise10swap();
        promise11read();
        promise12master();
        promise13undo();
        promise14rank();
        promise15value();
        promise16and17spreadAndTotal();
        promise18and19restAndSquares();
        promise20next();
        promise21better();
        promise22and23doubtfulAndWrong();
        promise24judge();
        promise25share();
        promise26lost();
        promise27seed();
        promise28drawn();
        promise29and30keepAndAgain();
        promise31count();
        System.out.println(wrong == 0 ? "all answers are as due" : wrong + " answers are not as due");
        if (wrong != 0) System.exit(1);
    }
}
