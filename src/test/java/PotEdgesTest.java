/** The edges that the pots of 'Terms' II and promises 10 to 12 and 17 name: a test for each sentence. */
public final class PotEdgesTest {
    private static final int LEAST = Integer.MIN_VALUE;
    private static final int MOST = Integer.MAX_VALUE;
    private static final Check CHECK = new Check();

    public static void main(String[] args) {
        potsRange();
        weightsRange();
        sandOneAndMore();
        weightsRefused();
        numbers();
        twoHundredInAll();
        glassOfBatch();
        needDownwards();
        doneAtFirst();
        doneGrows();
        doneFalls();
        doneNotBelowZero();
        readyFallsNoMore();
        readyFromNeedOn();
        growsFurther();
        heatOfThatHour();
        colourDownwards();
        colourEdges();
        colourFirstSpan();
        colourAsLaid();
        layPotRefused();
        layHeap();
        layHeapRefused();
        buyRange();
        buyAbove();
        heapAboveByOthers();
        buyRefused();
        dropGlass();
        dropRefused();
        potAnswers();
        potRefused();
        CHECK.finish();
    }

    private static void due(String call, long got, long want) {
        CHECK.due(call, got, want);
    }

    private static void potsRange() {
        CHECK.sentence("POTS 0 to 5: EMPTY, or with a BATCH");
        GlassHut x = new GlassHut();
        for (int k = 0; k < 6; k++) {
            due("empty " + k, x.pot(k, 0), -1);
            due("lay into " + k, x.lay(k, k + 1, 0, 0), k);
            for (int other = 0; other < 6; other++) {
                due("glass of " + other, x.pot(other, 1), other <= k ? other + 1 : -1);
            }
        }
        due("pot -1", x.lay(-1, 1, 0, 0), -1);
        due("pot 6", x.lay(6, 1, 0, 0), -1);
    }

    private static void weightsRange() {
        CHECK.sentence("sand, ash, broken glass (0 to 200 each");
        GlassHut x = new GlassHut();
        x.buy(1000);
        due("the least", x.lay(0, 1, 0, 0), 0);
        due("the greatest", x.lay(1, 200, 200, 200), 1);
        due("ash 200 alone", x.lay(2, 1, 200, 0), 2);
        due("broken glass 200 alone", x.lay(3, 1, 0, 200), 3);
        due("199 each", x.lay(4, 199, 199, 199), 4);
        due("heap", x.count(5), 1000 - 599);
    }

    private static void sandOneAndMore() {
        CHECK.sentence("sand 1 and more");
        CHECK.refuses("sand 0", PotEdgesTest::heaped, x -> x.lay(3, 0, 100, 100), -1);
        CHECK.refuses("nothing at all", PotEdgesTest::heaped, x -> x.lay(3, 0, 0, 0), -1);
        GlassHut x = heaped();
        due("sand 1", x.lay(3, 1, 100, 100), 2);
    }

    /** A hut with 300 on the heap, batches in pots 0 and 1. */
    private static GlassHut heaped() {
        GlassHut x = Check.hot();
        Check.spans(x, "a 0 30;b 31 100");
        x.buy(300);
        x.lay(0, 1, 200, 0);
        x.lay(1, 200, 0, 0);
        return x;
    }

    private static void weightsRefused() {
        CHECK.sentence("lay: NONE, and nothing happens: .. weights not as told");
        int[][] wrong = {{LEAST, 5, 5}, {-1, 5, 5}, {0, 5, 5}, {201, 5, 5}, {MOST, 5, 5}, {5, LEAST, 5}, {5, -1, 5},
            {5, 201, 5}, {5, MOST, 5}, {5, 5, LEAST}, {5, 5, -1}, {5, 5, 201}, {5, 5, MOST}};
        for (int[] n : wrong) {
            CHECK.refuses("lay(3, " + n[0] + ", " + n[1] + ", " + n[2] + ")", PotEdgesTest::heaped,
                    x -> x.lay(3, n[0], n[1], n[2]), -1);
        }
    }

    private static void numbers() {
        CHECK.sentence("a number (0, 1, .. as they are laid in");
        GlassHut x = new GlassHut();
        due("the first", x.lay(5, 1, 0, 0), 0);
        due("the second", x.lay(2, 1, 0, 0), 1);
        due("a refused one has none", x.lay(2, 1, 0, 0), -1);
        x.drop(5);
        due("the third", x.lay(5, 1, 0, 0), 2);
        due("of pot 5", x.pot(5, 0), 2);
        due("of pot 2", x.pot(2, 0), 1);
        due("laid in", x.count(6), 3);
    }

    private static GlassHut laid(int many) {
        GlassHut x = new GlassHut();
        for (int k = 0; k < many; k++) {
            x.lay(1, 1, 0, 0);
            x.drop(1);
        }
        return x;
    }

    private static void twoHundredInAll() {
        CHECK.sentence("200 at most in all");
        GlassHut x = laid(199);
        due("the 200th", x.lay(0, 1, 0, 0), 199);
        due("its number", x.pot(0, 0), 199);
        due("the 201st", x.lay(1, 1, 0, 0), -1);
        due("laid in", x.count(6), 200);
        due("pot 1", x.pot(1, 0), -1);
        due("drop of the 200th", x.drop(0), 1);
        due("none more", x.lay(0, 1, 0, 1), -1);
        due("heap", x.count(5), 200);
    }

    private static void glassOfBatch() {
        CHECK.sentence("GLASS of a BATCH: sand, half the ash (downwards) and the broken glass.");
        int[][] batches = {{1, 0, 0, 1}, {1, 1, 0, 1}, {1, 2, 0, 2}, {1, 3, 0, 2}, {1, 199, 0, 100}, {1, 200, 0, 101},
            {1, 1, 1, 2}, {200, 200, 200, 500}, {200, 199, 200, 499}};
        for (int[] n : batches) {
            GlassHut x = new GlassHut();
            x.buy(200);
            x.lay(0, n[0], n[1], n[2]);
            due("glass of " + n[0] + ", " + n[1] + ", " + n[2], x.pot(0, 1), n[3]);
        }
    }

    private static void needDownwards() {
        CHECK.sentence("NEED: (60 * sand + 10 * ash + 20 * broken glass) by all three together, downwards.");
        int[][] batches = {{1, 0, 0, 60}, {200, 0, 0, 60}, {1, 200, 0, 10}, {1, 0, 200, 20}, {1, 1, 0, 35},
            {1, 2, 0, 26}, {2, 1, 0, 43}, {1, 0, 1, 40}, {1, 1, 1, 30}, {1, 49, 0, 11}, {1, 50, 0, 10},
            {200, 200, 200, 30}, {1, 200, 200, 15}};
        for (int[] n : batches) {
            GlassHut x = new GlassHut();
            x.buy(200);
            x.lay(0, n[0], n[1], n[2]);
            due("need of " + n[0] + ", " + n[1] + ", " + n[2], x.pot(0, 3), n[3]);
        }
    }

    private static void doneAtFirst() {
        CHECK.sentence("DONE (0 at first).");
        GlassHut x = Check.hot();
        x.lay(0, 1, 0, 0);
        due("done", x.pot(0, 2), 0);
        x.pass(5);
        due("done later", x.pot(0, 2), 15);
        x.drop(0);
        x.lay(0, 1, 0, 0);
        due("done of a new batch", x.pot(0, 2), 0);
        due("it is not ready", x.pot(0, 4), 0);
    }

    /** A hut with a batch of a need and a done of 6, whose next hour has a heat of 2 to 1900. */
    private static GlassHut nextHeat(int sand, int ash, int heat) {
        GlassHut x = Check.hot();
        x.lay(0, sand, ash, 0);
        x.pass(2);
        int down = 1900 - heat;
        for (; down > 100; down -= 100) {
            x.cold(6, 6, 100);
        }
        if (down > 0) {
            x.cold(6, 6, down);
        }
        x.rate(0);
        return x;
    }

    private static void doneGrows() {
        CHECK.sentence("In an HOUR with HEAT 1100 or more DONE grows by 2 (by 3 from 1300 on)");
        int[] heats = {1900, 1301, 1300, 1299, 1101, 1100, 1099, 1098};
        int[] grows = {3, 3, 3, 2, 2, 2, 0, 0};
        for (int k = 0; k < heats.length; k++) {
            GlassHut x = nextHeat(1, 0, heats[k]);
            due("heat", x.pass(1), heats[k]);
            due("done by heat " + heats[k], x.pot(0, 2), 6 + grows[k]);
        }
        GlassHut y = Check.hot();
        y.lay(0, 1, 0, 0);
        due("the greatest heat", y.pass(1), 2000);
        due("done by it", y.pot(0, 2), 3);
    }

    private static void doneFalls() {
        CHECK.sentence("with HEAT below 800, if it is not READY, it falls by 1");
        int[] heats = {801, 800, 799, 798, 2};
        int[] falls = {0, 0, 1, 1, 1};
        for (int k = 0; k < heats.length; k++) {
            GlassHut x = nextHeat(1, 0, heats[k]);
            due("heat", x.pass(1), heats[k]);
            due("done by heat " + heats[k], x.pot(0, 2), 6 - falls[k]);
        }
    }

    private static void doneNotBelowZero() {
        CHECK.sentence("falls by 1 (not below 0)");
        GlassHut x = nextHeat(1, 0, 2);
        for (int k = 1; k <= 6; k++) {
            x.pass(1);
            due("done", x.pot(0, 2), 6 - k);
        }
        x.pass(1);
        due("done stays 0", x.pot(0, 2), 0);
        x.pass(500);
        due("and so on", x.pot(0, 2), 0);
        GlassHut y = new GlassHut();
        y.lay(0, 1, 0, 0);
        y.pass(1);
        due("done of a cold hut", y.pot(0, 2), 0);
    }

    /** A hot hut at hour 7 with a batch of a need of 12 whose done is from 9 to 15. */
    private static GlassHut doneNear(int done) {
        GlassHut x = Check.hot();
        x.lay(0, 1, 24, 0);
        x.pass(3);
        int left = done - 9;
        for (; left >= 3; left -= 3) {
            x.pass(1);
        }
        if (left == 2) {
            heatOf(x, 1200);
        }
        return x;
    }

    /** Lets the next hour have a lower heat, by cold spells and without wood. */
    private static void heatOf(GlassHut x, int heat) {
        int now = x.count(0);
        int down = x.count(1) - x.count(1) / 20 - heat;
        for (; down > 100; down -= 100) {
            x.cold(now, now, 100);
        }
        if (down > 0) {
            x.cold(now, now, down);
        }
        int rate = x.rate(0);
        due("heat", x.pass(1), heat);
        x.rate(rate);
    }

    private static void readyFallsNoMore() {
        CHECK.sentence("with HEAT below 800, if it is not READY, it falls: a READY one does not");
        GlassHut x = doneNear(12);
        due("done at need", x.pot(0, 2), 12);
        heatOf(x, 100);
        due("done at need stays", x.pot(0, 2), 12);
        due("it is ready", x.pot(0, 4), 1);
        GlassHut y = doneNear(11);
        due("done below need", y.pot(0, 2), 11);
        heatOf(y, 700);
        due("done below need falls", y.pot(0, 2), 10);
        GlassHut z = doneNear(15);
        heatOf(z, 100);
        due("done above need stays", z.pot(0, 2), 15);
        z.rate(0);
        z.pass(500);
        due("it stays for long", z.pot(0, 2), 15);
        due("ready for long", z.pot(0, 4), 1);
    }

    private static void readyFromNeedOn() {
        CHECK.sentence("READY from DONE not below NEED on.");
        int[] dones = {9, 11, 12, 14, 15};
        int[] ready = {0, 0, 1, 1, 1};
        for (int k = 0; k < dones.length; k++) {
            GlassHut x = doneNear(dones[k]);
            due("need", x.pot(0, 3), 12);
            due("done", x.pot(0, 2), dones[k]);
            due("ready by " + dones[k], x.pot(0, 4), ready[k]);
            x.kind(0, 1, 1, 1, -1, 0, 1);
            due("blow by " + dones[k], x.blow(0, 0, 0), ready[k] == 1 ? 0 : 2);
        }
    }

    private static void growsFurther() {
        CHECK.sentence("DONE grows: of a READY BATCH too");
        GlassHut x = doneNear(12);
        x.pass(1);
        due("done", x.pot(0, 2), 15);
        x.pass(400);
        due("done far on", x.pot(0, 2), 15 + 1200);
    }

    private static void heatOfThatHour() {
        CHECK.sentence("An HOUR, in this order (each with HEAT as it is then): the POTS have the HEAT behind (a)");
        GlassHut x = new GlassHut();
        x.right(0, 100);
        x.cut(100);
        x.lay(0, 1, 0, 0);
        x.rate(20);
        x.pass(1);
        due("600: done", x.pot(0, 2), 0);
        x.pass(1);
        due("1170 now, 600 ahead: done", x.pot(0, 2), 2);
        x.pass(1);
        due("1712 now, 1170 ahead: done", x.pot(0, 2), 5);
    }

    private static int colourOf(String text, int sand, int ash, int broken) {
        GlassHut x = new GlassHut();
        Check.spans(x, text);
        x.buy(200);
        x.lay(0, sand, ash, broken);
        return x.pot(0, 5);
    }

    private static void colourDownwards() {
        CHECK.sentence("COLOUR: by ash hundredths of sand and ash together, downwards");
        String text = "z 0 0;a 1 1;b 32 32;c 33 33;d 49 49;e 50 50;f 98 98;g 99 100";
        due("0 of 1", colourOf(text, 1, 0, 0), 0);
        due("1 of 101", colourOf(text, 100, 1, 0), 0);
        due("1 of 100", colourOf(text, 99, 1, 0), 1);
        due("2 of 101", colourOf(text, 99, 2, 0), 1);
        due("1 of 3", colourOf(text, 2, 1, 0), 3);
        due("98 of 297", colourOf(text, 199, 98, 0), 2);
        due("199 of 399", colourOf(text, 200, 199, 0), 4);
        due("200 of 400", colourOf(text, 200, 200, 0), 5);
        due("98 of 99", colourOf(text, 1, 98, 0), 6);
        due("99 of 100", colourOf(text, 1, 99, 0), 7);
        due("200 of 201", colourOf(text, 1, 200, 0), 7);
        due("broken glass does not count", colourOf(text, 99, 1, 200), 1);
    }

    private static void colourEdges() {
        CHECK.sentence("the first SPAN of the text that has them: FROM and TO are in it");
        String text = "a 20 30";
        due("19", colourOf(text, 81, 19, 0), -1);
        due("20", colourOf(text, 80, 20, 0), 0);
        due("30", colourOf(text, 70, 30, 0), 0);
        due("31", colourOf(text, 69, 31, 0), -1);
        due("0 of a whole text", colourOf("a 0 100", 1, 0, 0), 0);
        due("99 of a whole text", colourOf("a 0 100", 1, 200, 0), 0);
        due("100 can't be", colourOf("a 100 100", 1, 200, 0), -1);
    }

    private static void colourFirstSpan() {
        CHECK.sentence("the number of the first SPAN of the text that has them .. NONE without one.");
        due("both have it", colourOf("a 0 50;b 50 100", 50, 50, 0), 0);
        due("the later one comes first", colourOf("b 50 100;a 0 50", 50, 50, 0), 0);
        due("the second alone", colourOf("a 0 50;b 50 100", 49, 51, 0), 1);
        due("the eighth", colourOf("a 0 0;b 0 0;c 0 0;d 0 0;e 0 0;f 0 0;g 0 0;h 50 50", 50, 50, 0), 7);
        due("none has it", colourOf("a 0 49;b 51 100", 50, 50, 0), -1);
        due("no spans", colourOf("", 50, 50, 0), -1);
    }

    private static void colourAsLaid() {
        CHECK.sentence("that has them as the BATCH is laid in");
        GlassHut x = new GlassHut();
        x.lay(0, 50, 50, 0);
        Check.spans(x, "a 0 49;b 50 100");
        due("ahead of the text", x.pot(0, 5), -1);
        x.lay(1, 50, 50, 0);
        Check.spans(x, "a 0 100");
        due("by the text of then", x.pot(1, 5), 1);
        x.lay(2, 50, 50, 0);
        due("by the text of now", x.pot(2, 5), 0);
    }

    private static void layPotRefused() {
        CHECK.sentence("lay: NONE, and nothing happens: no such POT, it is not EMPTY, 200 were laid in");
        for (int pot : new int[] {LEAST, -1, 6, MOST}) {
            CHECK.refuses("lay into " + pot, PotEdgesTest::heaped, x -> x.lay(pot, 5, 5, 5), -1);
        }
        CHECK.refuses("lay into a pot with a batch", PotEdgesTest::heaped, x -> x.lay(0, 5, 5, 5), -1);
        GlassHut x = laid(200);
        due("200 were laid in", x.lay(5, 1, 0, 7), -1);
        due("heap", x.count(5), 200);
        due("pot", x.pot(5, 0), -1);
        due("laid in", x.count(6), 200);
    }

    private static GlassHut bought(int broken) {
        GlassHut x = new GlassHut();
        x.buy(broken);
        return x;
    }

    private static void layHeap() {
        CHECK.sentence("BROKEN glass on the heap is what can be laid in (0 at first");
        GlassHut x = new GlassHut();
        due("heap at first", x.count(5), 0);
        due("one of none", x.lay(0, 1, 0, 1), -1);
        due("none of none", x.lay(0, 1, 0, 0), 0);
        GlassHut y = bought(10);
        due("all of it", y.lay(0, 1, 0, 10), 0);
        due("heap", y.count(5), 0);
        GlassHut z = bought(10);
        due("one less", z.lay(0, 1, 0, 9), 0);
        due("heap then", z.count(5), 1);
        due("two of one", z.lay(1, 1, 0, 2), -1);
        due("one of one", z.lay(1, 1, 0, 1), 1);
    }

    private static void layHeapRefused() {
        CHECK.sentence("lay: NONE, and nothing happens: .. not so much BROKEN glass is on the heap");
        CHECK.refuses("one of none", GlassHut::new, x -> x.lay(0, 1, 0, 1), -1);
        CHECK.refuses("11 of 10", () -> bought(10), x -> x.lay(0, 1, 0, 11), -1);
        CHECK.refuses("200 of 199", () -> bought(199), x -> x.lay(0, 200, 200, 200), -1);
    }

    private static void buyRange() {
        CHECK.sentence("BROKEN glass is bought (1 to 5000): how much is on the heap");
        GlassHut x = new GlassHut();
        due("the least", x.buy(1), 1);
        due("the greatest", x.buy(5000), 5001);
        due("one below it", x.buy(4999), 10000);
        due("heap", x.count(5), 10000);
        x.lay(0, 1, 0, 200);
        due("what was laid in is gone", x.buy(1), 9801);
    }

    /** A hut whose heap has so much, from 95001 to 100000. */
    private static GlassHut full(int heap) {
        GlassHut x = new GlassHut();
        for (int k = 0; k < 19; k++) {
            x.buy(5000);
        }
        x.buy(heap - 95000);
        return x;
    }

    private static void buyAbove() {
        CHECK.sentence("buy: NONE .. above 100000.");
        due("up to 100000", full(95001).buy(4999), 100000);
        due("up to 100001", full(95001).buy(5000), -1);
        due("one below it", full(99998).buy(1), 99999);
        due("one more", full(99999).buy(1), 100000);
        due("two more", full(99999).buy(2), -1);
        due("none more", full(100000).buy(1), -1);
        CHECK.refuses("buy above", () -> full(99999), x -> x.buy(2), -1);
        CHECK.refuses("buy at 100000", () -> full(100000), x -> x.buy(5000), -1);
    }

    private static void heapAboveByOthers() {
        CHECK.sentence("The heap may come above 100000 by what is dropped; nothing can be bought then");
        GlassHut x = full(100000);
        x.lay(0, 200, 200, 0);
        due("drop", x.drop(0), 300);
        due("heap", x.count(5), 100300);
        due("buy", x.buy(1), -1);
        x.lay(0, 1, 0, 200);
        due("still above", x.buy(1), -1);
        x.lay(1, 1, 0, 101);
        due("below", x.buy(1), 100000);
    }

    private static void buyRefused() {
        CHECK.sentence("buy: NONE, and nothing happens, for others");
        for (int broken : new int[] {LEAST, -5000, -1, 0, 5001, 100000, MOST}) {
            CHECK.refuses("buy(" + broken + ")", Probe::rich, x -> x.buy(broken), -1);
        }
    }

    private static void dropGlass() {
        CHECK.sentence("A POT is emptied: its GLASS (READY or not) is BROKEN glass: how much");
        GlassHut x = Check.hot();
        for (int k = 0; k < 6; k++) {
            x.lay(k, k + 1, 2, 0);
        }
        for (int k = 0; k < 6; k++) {
            due("drop of " + k, x.drop(k), k + 2);
            due("it is empty", x.pot(k, 0), -1);
        }
        due("heap", x.count(5), 2 + 3 + 4 + 5 + 6 + 7);
        x.lay(0, 1, 200, 0);
        x.pass(10);
        due("it is ready", x.pot(0, 4), 1);
        x.kind(0, 50, 1, 1, -1, 0, 1);
        x.blow(0, 0, 0);
        x.blow(0, 0, 0);
        due("what is left of a ready one", x.drop(0), 1);
        due("heap then", x.count(5), 28);
        due("batches stay laid in", x.count(6), 7);
    }

    private static void dropRefused() {
        CHECK.sentence("drop: NONE, and nothing happens, if there is none such, or it is EMPTY.");
        for (int pot : new int[] {LEAST, -1, 6, MOST}) {
            CHECK.refuses("drop of " + pot, Probe::rich, x -> x.drop(pot), -1);
        }
        for (int k = 3; k < 6; k++) {
            int pot = k;
            CHECK.refuses("drop of the empty pot " + pot, Probe::rich, x -> x.drop(pot), -1);
        }
        GlassHut x = new GlassHut();
        x.lay(2, 5, 0, 0);
        x.drop(2);
        due("drop once more", x.drop(2), -1);
        due("heap", x.count(5), 5);
    }

    private static void potAnswers() {
        CHECK.sentence("Of a POT what 0: the BATCH's number (NONE: EMPTY), 1: GLASS left, .. 5: COLOUR.");
        GlassHut x = Check.hot();
        Check.spans(x, "z 0 0;a 1 100");
        x.lay(1, 1, 0, 0);
        x.lay(5, 1, 200, 0);
        x.pass(4);
        x.kind(0, 7, 1, 1, -1, 0, 1);
        x.blow(0, 0, 5);
        int[] want = {1, 94, 12, 10, 1, 1};
        int[] other = {0, 1, 12, 60, 0, 0};
        for (int what = 0; what < 6; what++) {
            due("what " + what + " of 5", x.pot(5, what), want[what]);
            due("what " + what + " of 1", x.pot(1, what), other[what]);
        }
    }

    private static void potRefused() {
        CHECK.sentence("pot: NONE without it, EMPTY, or for another what.");
        GlassHut x = Probe.rich();
        for (int what = 0; what < 6; what++) {
            for (int pot : new int[] {LEAST, -1, 6, MOST}) {
                due("pot " + pot + " what " + what, x.pot(pot, what), -1);
            }
            due("an empty pot, what " + what, x.pot(5, what), -1);
        }
        for (int what : new int[] {LEAST, -1, 6, 7, MOST}) {
            due("what " + what, x.pot(0, what), -1);
            due("what " + what + " of an empty pot", x.pot(5, what), -1);
        }
        x.drop(0);
        for (int what = 0; what < 6; what++) {
            due("an emptied pot, what " + what, x.pot(0, what), -1);
        }
    }
}
