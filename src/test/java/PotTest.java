/** Promises 10 to 12 and 17: lay, buy, drop, pot, with the melting of a batch. */
public final class PotTest {
    private static final Check CHECK = new Check();

    public static void main(String[] args) {
        lays();
        layRefused();
        twoHundredBatches();
        buys();
        drops();
        melts();
        readyAtNeed();
        coolsBack();
        growsWhenReady();
        colours();
        pots();
        CHECK.finish();
    }

    private static void due(String call, long got, long want) {
        CHECK.due(call, got, want);
    }

    private static void lays() {
        GlassHut x = new GlassHut();
        x.buy(500);
        due("lay", x.lay(5, 200, 200, 200), 0);
        due("glass", x.pot(5, 1), 500);
        due("need", x.pot(5, 3), 30);
        due("heap", x.count(5), 300);
        due("lay again", x.lay(0, 1, 0, 0), 1);
        due("glass of sand 1", x.pot(0, 1), 1);
        due("need of sand alone", x.pot(0, 3), 60);
        due("lay odd ash", x.lay(1, 10, 7, 3), 2);
        due("glass of odd ash", x.pot(1, 1), 16);
        due("need of broken glass", needOf(1, 0, 199), (60 + 20 * 199) / 200);
        due("need of ash", needOf(1, 199, 0), (60 + 10 * 199) / 200);
        due("need downwards", x.pot(1, 3), (600 + 70 + 60) / 20);
        due("heap then", x.count(5), 297);
        due("batches", x.count(6), 3);
        due("done", x.pot(1, 2), 0);
        due("ready", x.pot(1, 4), 0);
        due("number", x.pot(1, 0), 2);
        due("all the heap", x.lay(2, 1, 0, 200), 3);
        due("97 left", x.lay(3, 1, 0, 97), 4);
        due("heap is bare", x.count(5), 0);
    }

    private static int needOf(int sand, int ash, int broken) {
        GlassHut x = new GlassHut();
        x.buy(200);
        x.lay(0, sand, ash, broken);
        return x.pot(0, 3);
    }

    private static void layRefused() {
        GlassHut x = new GlassHut();
        x.buy(500);
        x.lay(0, 5, 5, 0);
        String before = Check.all(x);
        due("lay into -1", x.lay(-1, 5, 5, 0), -1);
        due("lay into 6", x.lay(6, 5, 5, 0), -1);
        due("lay into a full pot", x.lay(0, 5, 5, 0), -1);
        due("sand 0", x.lay(1, 0, 5, 0), -1);
        due("sand 201", x.lay(1, 201, 5, 0), -1);
        due("ash -1", x.lay(1, 5, -1, 0), -1);
        due("ash 201", x.lay(1, 5, 201, 0), -1);
        due("broken -1", x.lay(1, 5, 5, -1), -1);
        due("broken 201", x.lay(1, 5, 5, 201), -1);
        CHECK.due("nothing happened", before.equals(Check.all(x)), true);
        GlassHut y = new GlassHut();
        y.buy(10);
        due("more than the heap", y.lay(0, 5, 5, 11), -1);
        due("heap stays", y.count(5), 10);
        due("no batch", y.count(6), 0);
        due("the pot stays empty", y.pot(0, 0), -1);
    }

    private static void twoHundredBatches() {
        GlassHut x = new GlassHut();
        for (int k = 0; k < 200; k++) {
            due("lay " + k, x.lay(k % 6, 1, 0, 0), k);
            due("drop " + k, x.drop(k % 6), 1);
        }
        due("lay 201", x.lay(0, 1, 0, 0), -1);
        due("batches", x.count(6), 200);
        due("heap", x.count(5), 200);
    }

    private static void buys() {
        GlassHut x = new GlassHut();
        due("buy 1", x.buy(1), 1);
        due("buy 5000", x.buy(5000), 5001);
        due("buy 0", x.buy(0), -1);
        due("buy -1", x.buy(-1), -1);
        due("buy 5001", x.buy(5001), -1);
        due("heap", x.count(5), 5001);
        for (int k = 2; k <= 19; k++) {
            x.buy(5000);
        }
        due("heap then", x.count(5), 95001);
        due("above 100000", x.buy(5000), -1);
        due("up to 100000", x.buy(4999), 100000);
        due("one more", x.buy(1), -1);
        x.lay(0, 1, 0, 200);
        due("as far as was laid in", x.buy(200), 100000);
    }

    private static void drops() {
        GlassHut x = new GlassHut();
        due("drop of an empty pot", x.drop(0), -1);
        due("drop of -1", x.drop(-1), -1);
        due("drop of 6", x.drop(6), -1);
        x.lay(3, 10, 5, 0);
        due("drop", x.drop(3), 12);
        due("heap", x.count(5), 12);
        due("the pot is empty", x.pot(3, 0), -1);
        due("drop again", x.drop(3), -1);
        due("lay after it", x.lay(3, 1, 0, 12), 1);
        GlassHut y = Check.hot();
        y.lay(0, 1, 200, 0);
        y.pass(4);
        y.kind(0, 30, 1, 1, -1, 0, 1);
        due("blow", y.blow(0, 0, 0), 0);
        due("drop of what is left", y.drop(0), 71);
        due("heap of that", y.count(5), 71);
    }

    private static void melts() {
        GlassHut x = new GlassHut();
        x.right(0, 10000);
        x.cut(10000);
        x.rate(20);
        x.lay(0, 1, 200, 0);
        due("need", x.pot(0, 3), 10);
        x.pass(1);
        due("done at heat 600", x.pot(0, 2), 0);
        x.pass(1);
        due("done at heat 1170", x.pot(0, 2), 2);
        x.pass(1);
        due("done at heat 1712", x.pot(0, 2), 5);
        x.pass(1);
        due("done at heat 2000", x.pot(0, 2), 8);
        due("not ready", x.pot(0, 4), 0);
        x.pass(1);
        due("done then", x.pot(0, 2), 11);
        due("ready", x.pot(0, 4), 1);
    }

    private static void readyAtNeed() {
        GlassHut x = Check.hot();
        x.lay(0, 1, 24, 0);
        due("need", x.pot(0, 3), 12);
        x.pass(3);
        due("not ready at 9", x.pot(0, 4), 0);
        x.pass(1);
        due("done", x.pot(0, 2), 12);
        due("ready at 12", x.pot(0, 4), 1);
    }

    private static void coolsBack() {
        GlassHut x = Check.hot();
        x.lay(0, 100, 0, 0);
        x.pass(2);
        due("done", x.pot(0, 2), 6);
        x.rate(0);
        int hours = 0;
        int done = 6;
        while (x.count(1) >= 1 && hours < 60) {
            int heat = x.pass(1);
            done += heat >= 1300 ? 3 : heat >= 1100 ? 2 : heat < 800 ? -1 : 0;
            hours++;
            due("done at heat " + heat, x.pot(0, 2), Math.max(0, done));
        }
        x.pass(100);
        due("not below 0", x.pot(0, 2), 0);
        heatEdges();
    }

    /** Heats of exactly 1299, 1300, 1099, 1100, 799 and 800 by cold spells. */
    private static void heatEdges() {
        int[] heats = {1299, 1300, 1099, 1100, 799, 800};
        int[] grows = {2, 3, 0, 2, -1, 0};
        for (int k = 0; k < heats.length; k++) {
            GlassHut x = Check.hot();
            x.lay(0, 100, 0, 0);
            x.pass(1);
            int down = 1900 - heats[k];
            for (; down > 100; down -= 100) {
                x.cold(5, 5, 100);
            }
            x.cold(5, 5, down);
            x.rate(0);
            due("heat", x.pass(1), heats[k]);
            due("done by heat " + heats[k], x.pot(0, 2), 3 + grows[k]);
        }
    }

    private static void growsWhenReady() {
        GlassHut x = Check.hot();
        x.lay(0, 1, 200, 0);
        x.pass(10);
        due("done grows on", x.pot(0, 2), 30);
        x.rate(0);
        x.pass(200);
        int done = x.pot(0, 2);
        CHECK.due("heat is low", x.count(1) < 800, true);
        x.pass(20);
        due("done of a ready batch stays", x.pot(0, 2), done);
        due("it is ready", x.pot(0, 4), 1);
    }

    private static void colours() {
        GlassHut x = new GlassHut();
        x.lay(0, 50, 50, 0);
        due("no colour without spans", x.pot(0, 5), -1);
        Check.spans(x, "clear 0 19; green 20 30;brown 25 40;white 99 100");
        due("it stays", x.pot(0, 5), -1);
        x.lay(1, 81, 19, 0);
        due("19", x.pot(1, 5), 0);
        x.lay(2, 80, 20, 0);
        due("20", x.pot(2, 5), 1);
        x.lay(3, 70, 30, 0);
        due("30 is in two", x.pot(3, 5), 1);
        x.lay(4, 69, 31, 0);
        due("31", x.pot(4, 5), 2);
        x.lay(5, 59, 41, 0);
        due("41", x.pot(5, 5), -1);
        x.drop(5);
        x.lay(5, 1, 200, 0);
        due("99 downwards", x.pot(5, 5), 3);
        x.drop(5);
        x.buy(200);
        x.lay(5, 160, 40, 200);
        due("broken glass counts not", x.pot(5, 5), 1);
        x.drop(5);
        x.lay(5, 121, 30, 0);
        due("19.8", x.pot(5, 5), 0);
    }

    private static void pots() {
        GlassHut x = new GlassHut();
        x.lay(2, 10, 0, 0);
        for (int what = 0; what < 6; what++) {
            due("of pot -1", x.pot(-1, what), -1);
            due("of pot 6", x.pot(6, what), -1);
            due("of an empty pot", x.pot(0, what), -1);
        }
        due("what -1", x.pot(2, -1), -1);
        due("what 6", x.pot(2, 6), -1);
        due("what 0", x.pot(2, 0), 0);
        due("what 1", x.pot(2, 1), 10);
        due("what 2", x.pot(2, 2), 0);
        due("what 3", x.pot(2, 3), 60);
        due("what 4", x.pot(2, 4), 0);
        due("what 5", x.pot(2, 5), -1);
    }
}
