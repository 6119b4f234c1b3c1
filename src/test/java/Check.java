import java.nio.file.Files;
import java.nio.file.Path;

/** What the tests of edges share: the sentence that is tested, answers compared, rooms made of texts. */
final class Check {
    static final int UNKNOWN = -1, OUTSIDE = -2, STATE = -3, FULL = -4, NONE = -9;
    static final int LEAST = Integer.MIN_VALUE, MOST = Integer.MAX_VALUE;
    private static final int MOST_TOLD = 40;

    private static String document = null;
    private static String sentence = "";
    private static int sentences = 0;
    private static int wrong = 0;

    private Check() { }

    /** What follows tests this sentence, which must stand in the document word by word. */
    static void says(String quoted) throws Exception {
        if (document == null) document = plain(Files.readString(Path.of("../shared/DOC.md")));
        sentence = quoted;
        sentences++;
        if (!document.contains(plain(quoted))) fails("the document has no such sentence (any more)");
    }

    private static String plain(String text) {
        return text.replaceAll("\\s+", " ");
    }

    private static void fails(String what) {
        if (wrong++ < MOST_TOLD) System.out.println("\"" + sentence + "\": " + what);
    }

    static void due(String call, long got, long want) {
        if (got != want) fails(call + " answered " + got + ", due is " + want);
    }

    static void due(String what, String got, String want) {
        if (!got.equals(want)) fails(what + "\n  is  " + got + "\n  due " + want);
    }

    static void fraction(String call, long above, long below, long wantAbove, long wantBelow) {
        due(call + ", above", above, wantAbove);
        due(call + ", below", below, wantBelow);
    }

    static void write(BalanceRoom x, String text) {
        for (int i = 0; i < text.length(); i++) x.write(text.charAt(i));
    }

    static BalanceRoom texted(String text) {
        BalanceRoom x = new BalanceRoom();
        write(x, text);
        return x;
    }

    static BalanceRoom roomOf(String text) {
        BalanceRoom x = texted(text);
        if (x.room() < 0) fails("the text " + text + " is no room");
        return x;
    }

    /** A text of n weights with as many like weighings, nothing on the master's pan. */
    static String likeOnes(int n, int many, String pans, String reading) {
        return "B" + n + "00" + ("w0" + pans + reading).repeat(many);
    }

    /** N, M and all weighings, in one line. */
    static String standing(BalanceRoom x) {
        StringBuilder line = new StringBuilder();
        line.append('N').append(x.count(1)).append(" M").append(x.count(2));
        // Asked once: an object answers for 512 calls, and drained asks this of it many times.
        int many = x.count(3);
        for (int t = 0; t < many; t++) line.append(' ').append(x.code(t)).append(':').append(x.reading(t) - 1000);
        return line.toString();
    }

    /**
     * All of an object's state that can be got out of it: it is used up by that (acts undone, the
     * seed told anew, gone on from what was kept, the text made the room).
     */
    static String drained(BalanceRoom x) {
        StringBuilder all = new StringBuilder();
        all.append("text ").append(x.count(0)).append(" fault ").append(x.fault());
        all.append(" seed ").append(x.seed(0)).append(" acts ").append(x.count(4)).append(" | ").append(standing(x));
        for (int act = 0; act < 20 && x.undo() != STATE; act++) all.append(" | undone ").append(standing(x));
        for (int slot = 0; slot < 2; slot++) all.append(" | again ").append(x.again(slot)).append(' ').append(standing(x));
        all.append(" | room ").append(x.room()).append(' ').append(standing(x));
        all.append(" | wiped ").append(x.wipe());
        return all.toString();
    }

    static void end() {
        System.out.println(sentences + " sentences, " + (wrong == 0 ? "all are kept" : wrong + " answers are not as due"));
        if (wrong != 0) System.exit(1);
    }
}
