import java.util.ArrayList;
import java.util.List;

/** Edges that the document's terms name for all calls: refusals, fractions, places, what changes nothing. */
public final class EdgesOfTermsTest {
    private static final int UNKNOWN = Check.UNKNOWN, OUTSIDE = Check.OUTSIDE, STATE = Check.STATE, FULL = Check.FULL;
    private static final int[] NUMBERS = {
        Check.LEAST, Check.LEAST + 1, -22222, -1001, -1000, -999, -10, -9, -3, -2, -1, 0, 1, 2, 3, 4, 5, 6, 7, 8, 9, 10, 11, 12,
        13, 14, 15, 20, 21, 22, 89, 90, 91, 98, 99, 100, 102, 111, 222, 223, 254, 255, 256, 998, 999, 1000, 1001, 2222,
        22222, 22223, 30000, 100000, 1 << 30, Check.MOST - 1, Check.MOST};
    private static final long[] ROWS = {
        Long.MIN_VALUE, -10000, -1, 0, 1, 1010, 1120, 2000, 2900, 3000, 3999, 4000, 4100, 5000, 5300, 6000, 6099, 6100, 7000,
        9999, 10000, 10102000, 99999999, 100000000, 101020003000L, 999999999999L, 1000000000000L, 1010200060996000L,
        2000200020002000L, 9999999999999999L, 10000000000000000L, Long.MAX_VALUE};
    private static final int STATES = 6;

    /** A call of the face, by its name and arguments. */
    private interface Call {
        long on(BalanceRoom x);
    }

    private record Named(String name, Call call) { }

    private static void fullOfActs(BalanceRoom x) {
        for (int act = 0; act < 10; act++) {
            x.read(act % 8, 100 + act);
            x.swap(act % 8, (act + 3) % 8);
        }
    }

    /** Objects of many states: new; half told; full of all; not determined; gone on from; taken empty. */
    private static BalanceRoom prepared(int state) {
        BalanceRoom x = new BalanceRoom();
        if (state == 1) {
            x.weigh(1, 12);
            x.weigh(12, -7);
            x.master(5);
            Check.write(x, "B1");
        }
        if (state == 2) {
            Check.write(x, "B350" + "w+-0+-100w0+++-009w-0-++020w000++003".repeat(2));
            x.room();
            Check.write(x, "w".repeat(90 - x.count(0)));
            x.seed(-77);
            x.keep(0);
            fullOfActs(x);
            x.keep(1);
            x.master(51);
        }
        if (state == 3) {
            x = Check.roomOf("B207w0+-+010w+-+-010");
            x.master(9);
            x.keep(1);
        }
        if (state == 4) {
            x = Check.roomOf("B499" + "w-++--+999w+-+-++001w0000+-500w-0+0+-999".repeat(2));
            x.keep(0);
            x.master(3);
            x.again(0);
            x.seed(Long.MAX_VALUE);
        }
        if (state == 5) {
            x = Check.roomOf("B200w0+0+001");
            x.take(0);
            x.keep(0);
            x.keep(1);
        }
        return x;
    }

    private static void addActs(List<Named> calls) {
        for (int a : NUMBERS) {
            calls.add(new Named("write(" + a + ")", x -> x.write(a)));
            calls.add(new Named("take(" + a + ")", x -> x.take(a)));
            calls.add(new Named("master(" + a + ")", x -> x.master(a)));
            calls.add(new Named("drawn(" + a + ")", x -> x.drawn(a)));
            calls.add(new Named("keep(" + a + ")", x -> x.keep(a)));
            calls.add(new Named("again(" + a + ")", x -> x.again(a)));
            for (int b : NUMBERS) {
                calls.add(new Named("weigh(" + a + ", " + b + ")", x -> x.weigh(a, b)));
                calls.add(new Named("swap(" + a + ", " + b + ")", x -> x.swap(a, b)));
                calls.add(new Named("read(" + a + ", " + b + ")", x -> x.read(a, b)));
            }
        }
        calls.add(new Named("room()", x -> x.room()));
        calls.add(new Named("undo()", x -> x.undo()));
    }

    private static void addAsked(List<Named> calls) {
        calls.add(new Named("fault()", x -> x.fault()));
        calls.add(new Named("better()", x -> x.better()));
        for (boolean d : new boolean[] {false, true}) {
            calls.add(new Named("rank(" + d + ")", x -> x.rank(d)));
            calls.add(new Named("next(" + d + ")", x -> x.next(d)));
            calls.add(new Named("doubtful(" + d + ")", x -> x.doubtful(d)));
            calls.add(new Named("wrong(" + d + ")", x -> x.wrong(d)));
            for (boolean u : new boolean[] {false, true}) {
                calls.add(new Named("total(" + d + ", " + u + ")", x -> x.total(d, u)));
                calls.add(new Named("squares(" + d + ", " + u + ")", x -> x.squares(d, u)));
                for (int a : NUMBERS) {
                    String told = "(" + a + ", " + d + ", " + u + ")";
                    calls.add(new Named("value" + told, x -> x.value(a, d, u)));
                    calls.add(new Named("spread" + told, x -> x.spread(a, d, u)));
                    calls.add(new Named("rest" + told, x -> x.rest(a, d, u)));
                    calls.add(new Named("share" + told, x -> x.share(a, d, u)));
                    calls.add(new Named("lost" + told, x -> x.lost(a, d, u)));
                }
            }
        }
        for (int a : NUMBERS) {
            calls.add(new Named("code(" + a + ")", x -> x.code(a)));
            calls.add(new Named("reading(" + a + ")", x -> x.reading(a)));
            calls.add(new Named("count(" + a + ")", x -> x.count(a)));
            for (long row : ROWS) calls.add(new Named("judge(" + a + ", " + row + ")", x -> x.judge(a, row)));
        }
    }

    private static boolean isRefusal(long answer) {
        return answer == UNKNOWN || answer == OUTSIDE || answer == STATE || answer == FULL;
    }

    private static void refusedChangesNothing() throws Exception {
        Check.says("What is refused changes nothing.");
        List<Named> calls = new ArrayList<>();
        addActs(calls);
        for (int state = 0; state < STATES; state++) {
            String asItWas = Check.drained(prepared(state));
            int refused = 0;
            for (Named named : calls) {
                BalanceRoom x = prepared(state);
                if (!isRefusal(named.call().on(x))) continue;
                refused++;
                Check.due("state " + state + ", behind " + named.name(), Check.drained(x), asItWas);
            }
            Check.due("state " + state + ": some are refused, some not", refused > 0 && refused < calls.size() ? 1 : 0, 1);
        }
    }

    private static void askedChangesNothing() throws Exception {
        Check.says("In what follows nothing is changed.");
        List<Named> calls = new ArrayList<>();
        addAsked(calls);
        for (int state = 0; state < STATES; state++) {
            String asItWas = Check.drained(prepared(state));
            for (Named named : calls) {
                BalanceRoom x = prepared(state);
                named.call().on(x);
                Check.due("state " + state + ", behind " + named.name(), Check.drained(x), asItWas);
            }
        }
    }

    private static void answersDependOnStateAlone() throws Exception {
        Check.says("Nothing is promised beyond the answers and state changes described above");
        List<Named> calls = new ArrayList<>();
        addAsked(calls);
        for (int state = 0; state < STATES; state++) {
            BalanceRoom used = prepared(state);
            for (int i = 0; i < calls.size(); i++) {
                // An object is used for 512 calls at most.
                if (i % 300 == 299) used = prepared(state);
                // Far from each other, so that what is asked of the used one has no kind of its own.
                Named named = calls.get((int) (i * 7919L % calls.size()));
                Check.due("state " + state + ", " + named.name() + " behind others",
                        named.call().on(used), named.call().on(prepared(state)));
            }
        }
    }

    private static void firstOfSeveralRefusals() throws Exception {
        Check.says("REFUSALS, of several the first that a call names (in just that row): UNKNOWN");
        BalanceRoom full = prepared(2);
        Check.due("write: OUTSIDE ahead of FULL", full.write(256), OUTSIDE);
        Check.due("write: FULL, if it is not outside", full.write(255), FULL);
        Check.due("weigh: a code OUTSIDE ahead of FULL", full.weigh(3, 0), OUTSIDE);
        Check.due("weigh: a reading OUTSIDE ahead of FULL", full.weigh(2, 1000), OUTSIDE);
        Check.due("weigh: FULL, if nothing is outside", full.weigh(2, 999), FULL);
        BalanceRoom x = prepared(3);
        Check.due("swap: UNKNOWN ahead of STATE", x.swap(2, 2), UNKNOWN);
        Check.due("swap: STATE, if it is known", x.swap(1, 1), STATE);
        Check.due("read: UNKNOWN ahead of OUTSIDE", x.read(2, 1000), UNKNOWN);
        Check.due("read: OUTSIDE, if it is known", x.read(1, 1000), OUTSIDE);
        Check.due("value: UNKNOWN ahead of STATE", x.value(2, false, true), UNKNOWN);
        Check.due("value: STATE, if it is known", x.value(1, false, true), STATE);
        Check.due("spread: UNKNOWN ahead of STATE", x.spread(3, true, true), UNKNOWN);
        Check.due("spread: STATE, if it is known", x.spread(2, true, true), STATE);
        Check.due("rest: UNKNOWN ahead of STATE", x.rest(2, true, true), UNKNOWN);
        Check.due("rest: STATE, if it is known", x.rest(1, true, true), STATE);
        Check.due("again: UNKNOWN, no STATE", x.again(2), UNKNOWN);
        Check.due("again: STATE, if the place is known", x.again(0), STATE);
    }

    private static void numbersOfRefusals() throws Exception {
        Check.says("public static final int UNKNOWN = -1, OUTSIDE = -2, STATE = -3, FULL = -4, NONE = -9;");
        Check.due("UNKNOWN", BalanceRoom.UNKNOWN, -1);
        Check.due("OUTSIDE", BalanceRoom.OUTSIDE, -2);
        Check.due("STATE", BalanceRoom.STATE, -3);
        Check.due("FULL", BalanceRoom.FULL, -4);
        Check.says("NONE is -9.");
        Check.due("NONE", BalanceRoom.NONE, -9);
        Check.due("no doubtful one", new BalanceRoom().doubtful(false), -9);
    }

    private static void fractionsBelowNought() throws Exception {
        Check.says("FRACTIONS are told above (upper = true; less than 0, if they are), below");
        BalanceRoom x = Check.roomOf("B100w0++001w0-+002");
        Check.fraction("-1/2", x.value(0, false, true), x.value(0, false, false), -1, 2);
        Check.fraction("its rest 3/2", x.rest(0, false, true), x.rest(0, false, false), 3, 2);
        BalanceRoom y = Check.roomOf("B100w0++000w0++001w0++000");
        Check.fraction("a rest -1/3", y.rest(0, false, true), y.rest(0, false, false), -1, 3);
        Check.fraction("a rest 2/3", y.rest(1, false, true), y.rest(1, false, false), 2, 3);
    }

    private static void fractionsInLeastTerms() throws Exception {
        Check.says("in least terms (0 is 0 above, 1 below)");
        BalanceRoom x = Check.roomOf("B200" + "w0+0+004w00+-006".repeat(4));
        Check.fraction("16/4", x.value(0, false, true), x.value(0, false, false), 4, 1);
        Check.fraction("-24/4", x.value(1, false, true), x.value(1, false, false), -6, 1);
        Check.fraction("4/16", x.spread(0, false, true), x.spread(0, false, false), 1, 4);
        Check.fraction("8/16", x.total(false, true), x.total(false, false), 1, 2);
        Check.fraction("no rest", x.rest(3, false, true), x.rest(3, false, false), 0, 1);
        Check.fraction("no squares", x.squares(false, true), x.squares(false, false), 0, 1);
        Check.fraction("no drift", x.value(2, true, true), x.value(2, true, false), 0, 1);
        Check.fraction("a share of 6/24", x.share(5, false, true), x.share(5, false, false), 1, 4);
        Check.fraction("no share", Check.roomOf("B100w+0+001").share(0, false, true),
                Check.roomOf("B100w+0+001").share(0, false, false), 0, 1);
        Check.fraction("no chance", x.lost(10, false, true), x.lost(10, false, false), 0, 1);
        Check.fraction("a sure thing", x.lost(0, false, true), x.lost(0, false, false), 1, 1);
        // Of four like ones one is left by 1 - 5^4/10^4 = 15/16, of both kinds by its square.
        Check.fraction("a chance", x.lost(5, false, true), x.lost(5, false, false), 225, 256);
    }

    private static void refusalsOfFractionsLikewise() throws Exception {
        Check.says("refusals of them are told likewise");
        BalanceRoom x = Check.roomOf("B200w0+0+001");
        for (boolean upper : new boolean[] {true, false}) {
            Check.due("value UNKNOWN, upper " + upper, x.value(2, false, upper), UNKNOWN);
            Check.due("value STATE, upper " + upper, x.value(0, false, upper), STATE);
            Check.due("spread UNKNOWN, upper " + upper, x.spread(2, false, upper), UNKNOWN);
            Check.due("spread STATE, upper " + upper, x.spread(0, false, upper), STATE);
            Check.due("total STATE, upper " + upper, x.total(false, upper), STATE);
            Check.due("rest UNKNOWN, upper " + upper, x.rest(1, false, upper), UNKNOWN);
            Check.due("rest STATE, upper " + upper, x.rest(0, false, upper), STATE);
            Check.due("squares STATE, upper " + upper, x.squares(false, upper), STATE);
            Check.due("share UNKNOWN, upper " + upper, x.share(1, false, upper), UNKNOWN);
            Check.due("lost OUTSIDE, upper " + upper, x.lost(11, false, upper), OUTSIDE);
        }
    }

    private static void placesFromNought() throws Exception {
        Check.says("Places (FAULT, JUDGED) are counted from 0 on.");
        Check.due("a fault in the first letter", Check.texted("x").fault(), 0);
        Check.due("a fault in the second", Check.texted("Bx").fault(), 1);
        BalanceRoom x = new BalanceRoom();
        Check.due("the first doing", x.judge(4, 2000_4000_4000_4000L), 0);
        Check.due("the fourth doing", x.judge(4, 4000_4000_4000_2000L), 3);
    }

    private static void usedFor512Calls() throws Exception {
        Check.says("An object is used for at most 512 calls after it has been made");
        BalanceRoom x = new BalanceRoom();
        for (int call = 1; call <= 510; call++) {
            if (call % 2 == 1) Check.due("call " + call, x.weigh(1, call), 1);
            else Check.due("call " + call, x.take(0), 0);
        }
        Check.due("call 511", x.weigh(1, 511), 1);
        Check.due("call 512", x.value(0, false, true), 511);
    }

    public static void main(String[] args) throws Exception {
        refusedChangesNothing();
        askedChangesNothing();
        answersDependOnStateAlone();
        firstOfSeveralRefusals();
        numbersOfRefusals();
        fractionsBelowNought();
        fractionsInLeastTerms();
        refusalsOfFractionsLikewise();
        placesFromNought();
        usedFor512Calls();
        Check.end();
    }
}
