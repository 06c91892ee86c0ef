import java.util.function.IntPredicate;

/** The edges that 'Terms' I and promises 1 to 6 and 16 name: a test for each sentence. */
public final class WoodEdgesTest {
    private static final int LEAST = Integer.MIN_VALUE;
    private static final int MOST = Integer.MAX_VALUE;
    private static final Check CHECK = new Check();

    public static void main(String[] args) {
        newObject();
        sites();
        rightsRange();
        rightsFirst();
        rightRefused();
        stackFull();
        cutRange();
        cutByRight();
        cutByRightChanged();
        cutByStack();
        cutRefused();
        rateRange();
        rateRefused();
        burntOrLess();
        heatDownwards();
        heatHeldBelow();
        heatHeldAbove();
        heatHeldAtLast();
        coldMany();
        coldDegrees();
        coldTogether();
        coldHours();
        coldLastHour();
        coldPast();
        coldRefused();
        goTrue();
        goHeatAndStack();
        goRefused();
        goPots();
        goBays();
        passRange();
        passRefused();
        minutesAgain();
        CHECK.finish();
    }

    private static void due(String call, long got, long want) {
        CHECK.due(call, got, want);
    }

    private static void newObject() {
        CHECK.sentence("HOUR 0; no KINDS, POTS EMPTY.");
        GlassHut x = new GlassHut();
        due("NOW", x.count(0), 0);
        due("COLD spells, with this one", x.cold(0, 0, 1), 1);
        for (int k = 0; k < 6; k++) {
            for (int what = 0; what < 6; what++) {
                due("pot " + k + " what " + what, x.pot(k, what), -1);
            }
        }
        for (int k = 0; k < 5; k++) {
            due("blow of kind " + k, x.blow(0, k, 0), 1);
            due("blown of kind " + k, x.count(30 + k), 0);
        }
        due("a shift without kinds", x.shift(480, 500, 0), 0);
        CHECK.sentence("SPANS of a new object: none");
        x.lay(0, 1, 0, 0);
        due("colour", x.pot(0, 5), -1);
    }

    private static void sites() {
        CHECK.sentence("SITES 0 to 4; the hut stands on one (0 at first).");
        GlassHut x = new GlassHut();
        due("site at first", x.count(3), 0);
        for (int site : new int[] {4, 0, 3, 1, 2}) {
            CHECK.due("go to " + site, x.go(site), true);
            due("site", x.count(3), site);
        }
        CHECK.due("go to -1", x.go(-1), false);
        CHECK.due("go to 5", x.go(5), false);
        due("site then", x.count(3), 2);
    }

    private static void rightsRange() {
        CHECK.sentence("Each has a RIGHT: measures of wood that may be cut there in a YEAR (0 to 10000");
        GlassHut x = new GlassHut();
        for (int site = 0; site < 5; site++) {
            due("the greatest of " + site, x.right(site, 10000), 0);
            due("the least of " + site, x.right(site, 0), 10000);
            due("one of " + site, x.right(site, 1), 0);
            due("9999 of " + site, x.right(site, 9999), 1);
        }
        due("each site has its own", x.right(2, 9999), 9999);
    }

    private static void rightsFirst() {
        CHECK.sentence("RIGHT .. 0 at first");
        GlassHut x = new GlassHut();
        due("cut without a right", x.cut(1), 0);
        due("stack", x.count(2), 0);
        due("cut in this year", x.count(4), 0);
        for (int site = 0; site < 5; site++) {
            due("right of " + site, x.right(site, 5), 0);
        }
    }

    private static void rightRefused() {
        CHECK.sentence("RIGHT of a SITE: what it was; NONE, and nothing happens, for others.");
        for (int site : new int[] {LEAST, -1, 5, MOST}) {
            CHECK.refuses("right(" + site + ", 5)", Probe::rich, x -> x.right(site, 5), -1);
        }
        for (int measures : new int[] {LEAST, -1, 10001, MOST}) {
            CHECK.refuses("right(1, " + measures + ")", Probe::rich, x -> x.right(1, measures), -1);
        }
    }

    /** A hut at hour 500 with so much on its stack. */
    private static GlassHut stacked(int first, int second) {
        GlassHut x = new GlassHut();
        x.right(0, 10000);
        x.cut(first);
        x.pass(500);
        x.cut(second);
        x.pass(500);
        return x;
    }

    private static void stackFull() {
        CHECK.sentence("The STACK (wood; 20000 at most)");
        GlassHut x = stacked(10000, 10000);
        due("a full stack", x.count(2), 20000);
        due("cut beside it", x.cut(1), 0);
        due("it stays full", x.count(2), 20000);
        due("nothing is cut", x.count(4), 0);
        GlassHut y = stacked(10000, 9999);
        due("room for one", y.count(2), 19999);
        due("cut of two", y.cut(2), 1);
        due("it is full", y.count(2), 20000);
        due("one is cut", y.count(4), 1);
    }

    private static void cutRange() {
        CHECK.sentence("for measures not 1 to 10000");
        GlassHut x = new GlassHut();
        x.right(0, 10000);
        due("cut of the greatest", x.cut(10000), 10000);
        GlassHut y = new GlassHut();
        y.right(0, 10000);
        due("cut of the least", y.cut(1), 1);
        due("cut of one below the greatest", y.cut(9999), 9999);
        due("cut in this year", y.count(4), 10000);
    }

    private static void cutByRight() {
        CHECK.sentence("how much (as far as the RIGHT that is left in this YEAR .. let)");
        GlassHut x = new GlassHut();
        x.right(0, 100);
        due("cut of 99", x.cut(99), 99);
        due("cut of two", x.cut(2), 1);
        due("cut of none left", x.cut(1), 0);
        due("stack", x.count(2), 100);
        GlassHut y = new GlassHut();
        y.right(0, 100);
        due("cut of one more", y.cut(101), 100);
        GlassHut z = new GlassHut();
        z.right(0, 100);
        due("cut of just all", z.cut(100), 100);
        due("then none", z.cut(10000), 0);
    }

    private static void cutByRightChanged() {
        CHECK.sentence("the RIGHT that is left, as the RIGHT is told anew");
        GlassHut x = new GlassHut();
        x.right(0, 100);
        x.cut(60);
        x.right(0, 60);
        due("just all is cut", x.cut(1), 0);
        x.right(0, 59);
        due("more is cut than may be", x.cut(1), 0);
        x.right(0, 0);
        due("no right is left", x.cut(10000), 0);
        due("stack", x.count(2), 60);
        due("cut in this year", x.count(4), 60);
        x.right(0, 61);
        due("one more may be cut", x.cut(10000), 1);
    }

    private static void cutByStack() {
        CHECK.sentence("how much (as far as .. the STACK, let)");
        GlassHut x = stacked(10000, 10000);
        x.rate(7);
        x.pass(1);
        due("stack", x.count(2), 19993);
        due("cut of less", x.cut(6), 6);
        due("cut of more", x.cut(2), 1);
        due("stack is full", x.count(2), 20000);
        due("cut in this year", x.count(4), 7);
        x.right(0, 9);
        x.pass(1);
        due("the right lets less than the stack", x.cut(10000), 2);
    }

    private static void cutRefused() {
        CHECK.sentence("cut: NONE, and nothing happens, for measures not 1 to 10000");
        for (int measures : new int[] {LEAST, -1, 0, 10001, MOST}) {
            CHECK.refuses("cut(" + measures + ")", WoodEdgesTest::halfCut, x -> x.cut(measures), -1);
        }
    }

    private static GlassHut halfCut() {
        GlassHut x = new GlassHut();
        x.right(0, 10000);
        x.cut(5000);
        return x;
    }

    private static void rateRange() {
        CHECK.sentence("the RATE (0 to 20; 0 at first)");
        GlassHut x = new GlassHut();
        due("rate at first", x.rate(20), 0);
        due("the greatest", x.rate(0), 20);
        due("the least", x.rate(1), 0);
        due("one", x.rate(19), 1);
        due("one below the greatest", x.rate(19), 19);
        due("rate -1", x.rate(-1), -1);
        due("rate 21", x.rate(21), -1);
        due("rate stays", x.rate(0), 19);
    }

    private static void rateRefused() {
        CHECK.sentence("The RATE: what it was; NONE, and nothing happens, for others.");
        for (int rate : new int[] {LEAST, -1, 21, MOST}) {
            CHECK.refuses("rate(" + rate + ")", Probe::rich, x -> x.rate(rate), -1);
        }
    }

    private static void burntOrLess() {
        CHECK.sentence("burnt is the RATE, or what the STACK has if that is less; it goes off the STACK.");
        int[] stacks = {0, 1, 19, 20, 21};
        for (int stack : stacks) {
            GlassHut x = new GlassHut();
            x.right(0, stack);
            x.cut(10000);
            x.rate(20);
            int burnt = Math.min(20, stack);
            due("heat of a stack of " + stack, x.pass(1), 30 * burnt);
            due("what is left of " + stack, x.count(2), stack - burnt);
        }
        GlassHut x = new GlassHut();
        x.right(0, 20);
        x.cut(20);
        due("heat at rate 0", x.pass(1), 0);
        due("stack at rate 0", x.count(2), 20);
    }

    /** A hut at hour 1 with a heat of 1 to 599. */
    private static GlassHut heated(int heat) {
        GlassHut x = new GlassHut();
        x.right(0, 10000);
        x.cut(10000);
        int burnt = heat / 30 + 1;
        x.rate(burnt);
        x.cold(0, 0, 30 * burnt - heat);
        x.pass(1);
        x.rate(0);
        return x;
    }

    private static void heatDownwards() {
        CHECK.sentence("HEAT / 20 (downwards)");
        int[] heats = {1, 19, 20, 21, 39, 40, 41, 599};
        int[] then = {1, 19, 19, 20, 38, 38, 39, 570};
        for (int k = 0; k < heats.length; k++) {
            GlassHut x = heated(heats[k]);
            due("heat", x.count(1), heats[k]);
            due("heat behind " + heats[k], x.pass(1), then[k]);
        }
    }

    private static void heatHeldBelow() {
        CHECK.sentence("held between 0 and 2000: not below 0");
        int[] colds = {18, 19, 20, 100};
        int[] then = {1, 0, 0, 0};
        for (int k = 0; k < colds.length; k++) {
            GlassHut x = heated(20);
            x.cold(1, 1, colds[k]);
            due("heat 20 behind a cold of " + colds[k], x.pass(1), then[k]);
            x.rate(1);
            due("nothing is owed", x.pass(1), then[k] + 30);
        }
    }

    private static void heatHeldAbove() {
        CHECK.sentence("held between 0 and 2000: not above 2000");
        int[] colds = {25, 26, 27, 28};
        int[] then = {2000, 2000, 2000, 1999};
        for (int k = 0; k < colds.length; k++) {
            GlassHut x = new GlassHut();
            x.right(0, 10000);
            x.cut(10000);
            x.rate(20);
            x.pass(3);
            for (int spell = 0; spell < 2; spell++) {
                x.cold(3, 3, 100);
            }
            x.cold(3, 3, colds[k]);
            due("heat 1712 + 600 - 85 - 200 - " + colds[k], x.pass(1), then[k]);
        }
    }

    private static void heatHeldAtLast() {
        CHECK.sentence("HEAT is HEAT + 30 * burnt - HEAT / 20 (downwards) - COLD, held: all of it at once");
        GlassHut x = Check.hot();
        for (int k = 0; k < 6; k++) {
            x.cold(4, 4, 100);
        }
        due("2000 + 600 - 100 - 600", x.pass(1), 1900);
        GlassHut y = new GlassHut();
        y.right(0, 100);
        y.cut(100);
        y.rate(1);
        y.cold(0, 0, 31);
        due("30 - 31", y.pass(1), 0);
    }

    private static void coldMany() {
        CHECK.sentence("COLD spells, 20 at most");
        GlassHut x = new GlassHut();
        for (int k = 1; k <= 20; k++) {
            due("spell " + k, x.cold(0, 0, 1), k);
        }
        due("spell 21", x.cold(0, 0, 100), -1);
        x.right(0, 100);
        x.cut(100);
        x.rate(1);
        due("heat under twenty spells", x.pass(1), 10);
        due("no room is made by time", x.cold(5, 6, 1), -1);
        CHECK.refuses("spell 21", WoodEdgesTest::twentySpells, y -> y.cold(1, 8, 100), -1);
    }

    private static GlassHut twentySpells() {
        GlassHut x = new GlassHut();
        x.right(0, 10000);
        x.cut(10000);
        x.rate(20);
        for (int k = 0; k < 20; k++) {
            x.cold(k, k, 1);
        }
        return x;
    }

    private static void coldDegrees() {
        CHECK.sentence("degrees (1 to 100");
        GlassHut x = new GlassHut();
        x.right(0, 10000);
        x.cut(10000);
        x.rate(20);
        due("the least", x.cold(0, 0, 1), 1);
        due("the greatest", x.cold(1, 1, 100), 2);
        due("0 degrees", x.cold(0, 0, 0), -1);
        due("101 degrees", x.cold(0, 0, 101), -1);
        due("heat by the least", x.pass(1), 599);
        due("heat by the greatest", x.pass(1), 599 + 600 - 29 - 100);
    }

    private static void coldTogether() {
        CHECK.sentence("of an HOUR those of all spells together");
        GlassHut x = Check.hot();
        for (int k = 0; k < 20; k++) {
            x.cold(4 + k % 2, 5, 100);
        }
        due("heat by ten", x.pass(1), 1500);
        due("heat by twenty", x.pass(1), 1500 + 600 - 75 - 2000);
        due("heat by none", x.pass(1), 25 + 600 - 1);
    }

    private static void coldHours() {
        CHECK.sentence("from an HOUR to an HOUR: both are in it, those beside them are not");
        GlassHut x = new GlassHut();
        x.right(0, 10000);
        x.cut(10000);
        x.rate(1);
        x.cold(1, 2, 5);
        due("ahead of it", x.pass(1), 30);
        due("its first hour", x.pass(1), 30 + 30 - 1 - 5);
        due("its last hour", x.pass(1), 54 + 30 - 2 - 5);
        due("behind it", x.pass(1), 77 + 30 - 3);
        GlassHut y = new GlassHut();
        y.right(0, 10000);
        y.cut(10000);
        y.rate(1);
        due("one hour alone", y.cold(0, 0, 5), 1);
        due("in it", y.pass(1), 25);
        due("behind one hour", y.pass(1), 25 + 30 - 1);
    }

    private static void coldLastHour() {
        CHECK.sentence("HOURS 0 to 4999 of a COLD spell");
        GlassHut x = new GlassHut();
        due("the last hour", x.cold(4999, 4999, 7), 1);
        due("all hours", x.cold(0, 4999, 1), 2);
        due("the first hour", x.cold(0, 0, 1), 3);
        x.right(0, 10000);
        for (int k = 0; k < 9; k++) {
            x.pass(500);
        }
        x.pass(498);
        x.cut(10);
        x.rate(1);
        due("hour 4998", x.pass(1), 29);
        due("hour 4999", x.pass(1), 29 + 30 - 1 - 8);
    }

    private static void coldPast() {
        CHECK.sentence("A COLD spell of HOURS that have gone by is one too");
        GlassHut x = heated(40);
        due("a spell of hour 0", x.cold(0, 0, 100), 2);
        due("heat", x.pass(1), 38);
    }

    private static void coldRefused() {
        CHECK.sentence("cold: NONE: .. something not as told (HOURS 0 to 4999, in order).");
        int[][] wrong = {{-1, 10, 5}, {LEAST, 10, 5}, {10, 9, 5}, {4999, 0, 5}, {10, -1, 5}, {10, LEAST, 5},
            {10, 5000, 5}, {10, MOST, 5}, {5000, 5000, 5}, {MOST, MOST, 5}, {-1, -1, 5}, {10, 12, 0}, {10, 12, -1},
            {10, 12, LEAST}, {10, 12, 101}, {10, 12, MOST}};
        for (int[] n : wrong) {
            CHECK.refuses("cold(" + n[0] + ", " + n[1] + ", " + n[2] + ")", Probe::rich,
                    x -> x.cold(n[0], n[1], n[2]), -1);
        }
    }

    private static void goTrue() {
        CHECK.sentence("The hut goes to a SITE: true");
        GlassHut x = new GlassHut();
        CHECK.due("go to the last", x.go(4), true);
        CHECK.due("go to the first", x.go(0), true);
        due("no hour goes by", x.count(0), 0);
    }

    private static void goHeatAndStack() {
        CHECK.sentence("HEAT is 0 then; the STACK stays behind: 0.");
        GlassHut x = Check.hot();
        x.go(1);
        due("heat", x.count(1), 0);
        due("stack", x.count(2), 0);
        due("heat of the next hour", x.pass(1), 0);
        due("the rate stays", x.rate(20), 20);
        CHECK.due("go back", x.go(0), true);
        due("the stack is not there", x.count(2), 0);
        due("what was cut there stays cut", x.cut(1), 0);
    }

    private static void goRefused() {
        CHECK.sentence("go: false, and nothing happens: none such, it stands there");
        for (int site : new int[] {LEAST, -1, 5, MOST}) {
            CHECK.refuses("go(" + site + ")", Check::hot, x -> x.go(site), false);
        }
        CHECK.refuses("go to where it stands", Check::hot, x -> x.go(0), false);
        CHECK.refuses("go to where it went", WoodEdgesTest::gone, x -> x.go(3), false);
    }

    private static GlassHut gone() {
        GlassHut x = new GlassHut();
        x.go(3);
        x.right(3, 10000);
        x.cut(5000);
        x.rate(20);
        x.pass(4);
        return x;
    }

    private static void goPots() {
        CHECK.sentence("go: false, and nothing happens: some POT is not EMPTY");
        for (int k = 0; k < 6; k++) {
            int pot = k;
            CHECK.refuses("go with a batch in " + pot, () -> laid(pot), x -> x.go(1), false);
            GlassHut x = laid(pot);
            x.drop(pot);
            CHECK.due("go as pot " + pot + " is empty", x.go(1), true);
        }
    }

    private static GlassHut laid(int pot) {
        GlassHut x = Check.hot();
        x.lay(pot, 1, 0, 0);
        return x;
    }

    private static void goBays() {
        CHECK.sentence("go: false, and nothing happens: something is in a BAY");
        for (int k = 0; k < 3; k++) {
            int bay = k;
            CHECK.refuses("go with a piece in " + bay, () -> oneInBay(bay), x -> x.go(1), false);
            GlassHut x = oneInBay(bay);
            x.open(bay);
            CHECK.due("go as bay " + bay + " is opened", x.go(1), true);
            GlassHut y = oneInBay(bay);
            y.pass(39);
            CHECK.due("go an hour ahead of its being stored", y.go(1), false);
            y.pass(1);
            CHECK.due("go as it is stored", y.go(1), true);
        }
    }

    /** A hut with empty pots and one piece alone, in a bay. */
    private static GlassHut oneInBay(int bay) {
        GlassHut x = Check.hot();
        x.lay(0, 1, 200, 0);
        x.pass(4);
        x.kind(0, 1, 1, 100, -1, 0, 40);
        for (int k = 0; k <= 20 * bay; k++) {
            x.blow(k / 60, 0, 0);
        }
        for (int k = 0; k < bay; k++) {
            x.open(k);
        }
        x.drop(0);
        return x;
    }

    private static void passRange() {
        CHECK.sentence("So many HOURS (1 to 500) go by: the HEAT");
        GlassHut x = Check.hot();
        due("pass 1", x.pass(1), 2000);
        due("hour", x.count(0), 5);
        due("pass 500", x.pass(500), heatLater());
        due("hour then", x.count(0), 505);
        due("stack", x.count(2), 0);
        GlassHut y = new GlassHut();
        due("pass 500 at once", y.pass(500), 0);
        due("hour 500", y.count(0), 500);
    }

    /** From a heat of 2000 at hour 5: 495 hours of rate 20, then five without wood. */
    private static int heatLater() {
        int heat = 2000;
        for (int k = 0; k < 5; k++) {
            heat -= heat / 20;
        }
        return heat;
    }

    private static void passRefused() {
        CHECK.sentence("pass: NONE, and nothing happens, for others, or beyond 5000.");
        for (int hours : new int[] {LEAST, -500, -1, 0, 501, 5000, MOST}) {
            CHECK.refuses("pass(" + hours + ")", Probe::rich, x -> x.pass(hours), -1);
        }
        CHECK.refuses("pass to 5001", Probe::lastHour, x -> x.pass(2), -1);
        CHECK.refuses("pass of 500 at 4999", Probe::lastHour, x -> x.pass(500), -1);
        IntPredicate full = hour -> {
            GlassHut x = new GlassHut();
            for (int k = 0; k < 9; k++) {
                x.pass(500);
            }
            if (hour > 4500) {
                x.pass(hour - 4500);
            }
            return x.pass(500) == 0 && x.count(0) == 5000;
        };
        CHECK.due("pass 500 at 4500", full.test(4500), true);
        CHECK.due("pass 500 at 4501", full.test(4501), false);
    }

    private static void minutesAgain() {
        CHECK.sentence("Then NOW is one more, each GANG has 60 MINUTES again");
        GlassHut x = Check.hot();
        x.lay(0, 1, 200, 0);
        x.pass(4);
        x.kind(0, 1, 60, 1, -1, 0, 40);
        for (int gang = 0; gang < 4; gang++) {
            due("blow by " + gang, x.blow(gang, 0, 0), 0);
            due("minutes of " + gang, x.count(20 + gang), 0);
        }
        x.pass(1);
        due("hour", x.count(0), 9);
        for (int gang = 0; gang < 4; gang++) {
            due("minutes again of " + gang, x.count(20 + gang), 60);
        }
        x.blow(0, 0, 0);
        x.pass(3);
        due("60 also behind some hours", x.count(20), 60);
    }
}
