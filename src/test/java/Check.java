import java.nio.charset.StandardCharsets;
import java.util.function.Function;
import java.util.function.Supplier;

/** What the tests share: the tally of answers, and short ways to bring a hut into a state. */
final class Check {
    private int wrong = 0;
    private String sentence = "";

    /** Begins the test of a sentence of the document, whose words go with each wrong answer. */
    void sentence(String words) {
        sentence = "'" + words + "': ";
    }

    void due(String call, long got, long want) {
        if (got != want) {
            wrong++;
            System.out.println(sentence + call + " answered " + got + ", due is " + want);
        }
    }

    void due(String call, boolean got, boolean want) {
        due(call, got ? 1 : 0, want ? 1 : 0);
    }

    /** A refused call answers as told, and its hut then holds what a twin holds to which the call was not made. */
    void refuses(String call, Supplier<GlassHut> state, Function<GlassHut, Object> told, Object want) {
        GlassHut x = state.get();
        Object got = told.apply(x);
        due(call + " (answer " + got + ") is refused with " + want, got.equals(want), true);
        due(call + " leaves all as it was", Probe.all(x).equals(Probe.all(state.get())), true);
    }

    void finish() {
        System.out.println(wrong == 0 ? "all answers are as due" : wrong + " answers are not as due");
        if (wrong != 0) {
            System.exit(1);
        }
    }

    /** Puts a text of 200 bytes at most on an empty tape. */
    static void tape(GlassHut hut, String text) {
        byte[] told = text.getBytes(StandardCharsets.ISO_8859_1);
        for (int at = 0; at < told.length; at += 20) {
            int[] five = new int[5];
            for (int k = 0; k < 20; k++) {
                int one = at + k < told.length ? told[at + k] & 255 : 0;
                five[k / 4] |= one << (24 - 8 * (k % 4));
            }
            hut.feed(five[0], five[1], five[2], five[3], five[4]);
        }
        hut.end(told.length);
    }

    static int spans(GlassHut hut, String text) {
        tape(hut, text);
        return hut.spans();
    }

    /** A new hut whose heat is 2000 after four hours, with wood for 496 hours more at the same rate. */
    static GlassHut hot() {
        GlassHut hut = new GlassHut();
        hut.right(0, 10000);
        hut.cut(10000);
        hut.rate(20);
        hut.pass(4);
        return hut;
    }

    /** All that can be asked of a hut without a change to it. */
    static String all(GlassHut hut) {
        StringBuilder told = new StringBuilder();
        for (int what = 0; what <= 34; what++) {
            told.append(hut.count(what)).append(' ');
        }
        for (int k = 0; k < 6; k++) {
            for (int what = 0; what < 6; what++) {
                told.append(hut.pot(k, what)).append(' ');
            }
        }
        for (int k = 0; k < hut.count(7); k++) {
            for (int what = 0; what < 7; what++) {
                told.append(hut.piece(k, what)).append(' ');
            }
        }
        for (int k = 0; k < 4; k++) {
            told.append(hut.pay(k)).append(' ');
        }
        for (int k = 0; k < 7; k++) {
            told.append(hut.shifted(k)).append(' ');
        }
        for (int k = 0; k < 10; k++) {
            told.append(hut.moved(k)).append(' ');
        }
        return told.toString();
    }
}
