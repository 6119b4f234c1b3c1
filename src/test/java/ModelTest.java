import java.util.Random;

/**
 * Long runs of calls, by fixed seeds, on the class and on the slow model: each answer must be alike.
 * What to call next is taken from the model, so that each call of the object is one that is compared.
 */
public final class ModelTest {
    private static final int RUNS = 1000;
    /** A run may go on to 98 calls more (a text told anew), and then to 14 acts undone. */
    private static final int CALLS = 300;
    /** What later calls of an object answer is free. */
    private static final int CALLS_PROMISED = 512;
    private static final int MOST_TOLD = 20;

    private final Random random;
    private final int run;
    private final BalanceRoom x = new BalanceRoom();
    private final Model model = new Model();
    private int calls = 0;
    private static int wrong = 0;

    private ModelTest(int run) {
        this.run = run;
        this.random = new Random(run);
    }

    private int pick(int bound) {
        return random.nextInt(bound);
    }

    private boolean flip() {
        return random.nextBoolean();
    }

    private void alike(String call, long got, long due) {
        calls++;
        if (calls > CALLS_PROMISED) {
            throw new IllegalStateException("run " + run + " asks for more than the document promises");
        }
        if (got != due && wrong++ < MOST_TOLD) {
            System.out.println("run " + run + ", call " + calls + ": " + call + " answered " + got + ", due is " + due);
        }
    }

    /** Mostly small numbers as they may be, at times one just beside, at times any. */
    private int around(int least, int most) {
        int kind = pick(30);
        if (kind == 0) return random.nextInt();
        if (kind == 1) return least - 1;
        if (kind == 2) return most + 1;
        if (kind == 3) return flip() ? least : most;
        return most < least ? least : least + pick(most - least + 1);
    }

    private void letters(String text) {
        for (int i = 0; i < text.length(); i++) {
            int letter = text.charAt(i);
            alike("write(" + letter + ")", x.write(letter), model.write(letter));
        }
    }

    private static String pans(Random random, int many) {
        StringBuilder pans = new StringBuilder();
        for (int i = 0; i < many; i++) pans.append("0+-".charAt(random.nextInt(3)));
        return pans.toString();
    }

    /** The greatest readings, the master against them, all pans laden: the greatest numbers there are. */
    private String textOfGreatRoom() {
        int n = 3 + pick(2);
        StringBuilder text = new StringBuilder("B" + n + "99");
        for (int t = 0; t < 8; t++) {
            boolean plus = flip();
            text.append('w').append(plus ? '-' : '+');
            for (int i = 0; i < n; i++) text.append(pick(12) == 0 ? '0' : flip() ? '+' : '-');
            text.append(plus ? '+' : '-').append("999");
        }
        return text.toString();
    }

    /** Readings near true ones make fits with nothing left over likely. */
    private String textOfRoom() {
        if (pick(8) == 0) return textOfGreatRoom();
        int n = 1 + pick(4);
        int m = pick(100);
        int many = pick(10);
        int[] truth = new int[n];
        for (int i = 0; i < n; i++) truth[i] = pick(60) - 10;
        boolean near = flip();
        int drift = pick(4) == 0 ? pick(7) - 3 : 0;
        StringBuilder text = new StringBuilder("B" + n + m / 10 + m % 10);
        for (int t = 0; t < many; t++) {
            String pans = pans(random, n + 1);
            int reading = pick(1999) - 999;
            if (near) {
                reading = ("-0+".indexOf(pans.charAt(0)) - 1) * m + drift * t;
                for (int i = 0; i < n; i++) reading += ("-0+".indexOf(pans.charAt(i + 1)) - 1) * truth[i];
                if (pick(5) == 0) reading += pick(3) - 1;
            }
            int size = Math.abs(reading);
            text.append('w').append(pans).append(reading < 0 ? '-' : reading > 0 || flip() ? '+' : '-');
            text.append(size / 100 % 10).append(size / 10 % 10).append(size % 10);
        }
        return text.toString();
    }

    private void tellRoom() {
        alike("wipe()", x.wipe(), model.wipe());
        StringBuilder text = new StringBuilder(textOfRoom());
        int spoil = pick(6);
        if (spoil == 0) text.setLength(pick(text.length() + 1));
        if (spoil == 1) text.setCharAt(pick(text.length()), "B01459w+- x".charAt(pick(11)));
        if (spoil == 2) text.append("Bw0+-1".charAt(pick(6)));
        letters(text.toString());
        alike("fault()", x.fault(), model.fault());
        alike("room()", x.room(), model.room());
    }

    private int someCode() {
        if (pick(8) == 0) return around(0, 23000);
        return Integer.parseInt(pans(random, 1 + model.count(1)).replace('+', '1').replace('-', '2'));
    }

    private void acts() {
        int last = model.count(3) - 1;
        int a = around(0, last);
        int b = around(0, last);
        int reading = around(-999, 999);
        if (pick(3) == 0) reading = around(-20, 20);
        int m = around(0, 99);
        int code = someCode();
        switch (pick(7)) {
            case 0, 1 -> alike("weigh(" + code + ", " + reading + ")", x.weigh(code, reading), model.weigh(code, reading));
            case 2 -> alike("take(" + a + ")", x.take(a), model.take(a));
            case 3 -> alike("swap(" + a + ", " + b + ")", x.swap(a, b), model.swap(a, b));
            case 4 -> alike("read(" + a + ", " + reading + ")", x.read(a, reading), model.read(a, reading));
            case 5 -> alike("master(" + m + ")", x.master(m), model.master(m));
            default -> alike("undo()", x.undo(), model.undo());
        }
    }

    private void asked() {
        boolean d = flip();
        boolean u = flip();
        int w = around(0, model.count(1));
        int t = around(0, model.count(3) - 1);
        switch (pick(6)) {
            case 0 -> alike("rank(" + d + ")", x.rank(d), model.rank(d));
            case 1 -> alike("value(" + w + ", " + d + ", " + u + ")", x.value(w, d, u), model.value(w, d, u));
            case 2 -> alike("spread(" + w + ", " + d + ", " + u + ")", x.spread(w, d, u), model.spread(w, d, u));
            case 3 -> alike("total(" + d + ", " + u + ")", x.total(d, u), model.total(d, u));
            case 4 -> alike("rest(" + t + ", " + d + ", " + u + ")", x.rest(t, d, u), model.rest(t, d, u));
            default -> alike("squares(" + d + ", " + u + ")", x.squares(d, u), model.squares(d, u));
        }
    }

    private String doing() {
        int last = Math.max(1, model.count(3));
        int a = pick(last);
        int true3 = (int) Math.floorMod(model.value(pick(4), false, true), 100L);
        switch (pick(9)) {
            case 0: return "1" + a + pick(last) + "0";
            case 1: return "2" + a + "00";
            case 2: return "3" + pick(4) + true3 / 10 + true3 % 10;
            case 3: return "4" + model.rank(false) + "00";
            case 4: return "5" + Math.max(0, model.doubtful(false)) + "00";
            case 5: return "60" + pick(10) + pick(10);
            case 6: return "1" + a + (a + 1) % 10 + "0";
            case 7: return "" + (1 + pick(6)) + pick(9) + (pick(3) == 0 ? pick(10) : 0) + (pick(3) == 0 ? pick(10) : 0);
            default: return "" + pick(10) + pick(10) + pick(10) + pick(10);
        }
    }

    private void judged() {
        int n = 1 + pick(4);
        StringBuilder figures = new StringBuilder();
        for (int i = 0; i < n; i++) figures.append(doing());
        if (pick(20) == 0) figures.append(pick(10));
        long row = Long.parseLong(figures.toString());
        if (pick(30) == 0) row = random.nextLong();
        if (pick(30) == 0) n = around(1, 4);
        alike("judge(" + n + ", " + row + ")", x.judge(n, row), model.judge(n, row));
    }

    private void askedMore() {
        boolean d = flip();
        boolean u = flip();
        int t = around(0, model.count(3) - 1);
        int tenths = around(0, 10);
        switch (pick(8)) {
            case 0 -> {
                if (model.count(1) < 4 || pick(3) == 0) alike("next(" + d + ")", x.next(d), model.next(d));
            }
            case 1 -> alike("better()", x.better(), model.better());
            case 2 -> alike("doubtful(" + d + ")", x.doubtful(d), model.doubtful(d));
            case 3 -> alike("wrong(" + d + ")", x.wrong(d), model.wrong(d));
            case 4, 5 -> judged();
            case 6 -> {
                if (pick(3) == 0) alike("share(" + t + ", " + d + ", " + u + ")", x.share(t, d, u), model.share(t, d, u));
            }
            default -> {
                if (pick(3) == 0) {
                    alike("lost(" + tenths + ", " + d + ", " + u + ")", x.lost(tenths, d, u), model.lost(tenths, d, u));
                }
            }
        }
    }

    private void others() {
        int slot = around(0, 1);
        int m = around(1, pick(3) == 0 ? 20 : 4);
        int what = around(0, 4);
        long v = flip() ? random.nextLong() : pick(10);
        int t = around(0, model.count(3) - 1);
        switch (pick(7)) {
            case 0 -> alike("keep(" + slot + ")", x.keep(slot), model.keep(slot));
            case 1 -> {
                if (pick(3) == 0) alike("again(" + slot + ")", x.again(slot), model.again(slot));
            }
            case 2 -> alike("count(" + what + ")", x.count(what), model.count(what));
            case 3 -> alike("seed(" + v + ")", x.seed(v), model.seed(v));
            case 4 -> alike("drawn(" + m + ")", x.drawn(m), model.drawn(m));
            case 5 -> alike("code(" + t + ")", x.code(t), model.code(t));
            default -> alike("reading(" + t + ")", x.reading(t), model.reading(t));
        }
    }

    /** All that the face shows of the state, so that a call that should change nothing did not. */
    private void seen() {
        for (int what = -1; what <= 5; what++) alike("count(" + what + ")", x.count(what), model.count(what));
        for (int t = -1; t <= 8; t++) {
            alike("code(" + t + ")", x.code(t), model.code(t));
            alike("reading(" + t + ")", x.reading(t), model.reading(t));
        }
        alike("fault()", x.fault(), model.fault());
    }

    private void go() {
        seen();
        if (flip()) tellRoom();
        while (calls < CALLS) {
            int kind = pick(40);
            if (kind == 0) tellRoom();
            else if (kind == 1) seen();
            else if (kind < 14) acts();
            else if (kind < 24) asked();
            else if (kind < 34) askedMore();
            else others();
        }
        while (model.count(4) > 0) {
            alike("undo()", x.undo(), model.undo());
            for (int what = 1; what < 4; what++) alike("count(" + what + ")", x.count(what), model.count(what));
            int t = pick(8);
            alike("code(" + t + ")", x.code(t), model.code(t));
            alike("reading(" + t + ")", x.reading(t), model.reading(t));
        }
    }

    public static void main(String[] args) {
        for (int run = 0; run < RUNS; run++) new ModelTest(run).go();
        System.out.println(wrong == 0 ? "all answers are as due" : wrong + " answers are not as due");
        if (wrong != 0) System.exit(1);
    }
}
