/** Promises 1 to 6 and 16: a new object, right, cut, rate, cold, go, pass. */
public final class WoodTest {
    private static final Check CHECK = new Check();

    public static void main(String[] args) {
        newObject();
        rights();
        cuts();
        cutsByYearAndSite();
        rates();
        heatByHours();
        stackRunsOut();
        colds();
        coldSums();
        goes();
        goRefused();
        passes();
        theEnd();
        CHECK.finish();
    }

    private static void due(String call, long got, long want) {
        CHECK.due(call, got, want);
    }

    private static void newObject() {
        GlassHut x = new GlassHut();
        for (int what = 0; what <= 12; what++) {
            due("new count " + what, x.count(what), 0);
        }
        for (int k = 20; k <= 23; k++) {
            due("new count " + k, x.count(k), 60);
        }
        for (int k = 0; k < 6; k++) {
            due("new pot " + k, x.pot(k, 0), -1);
        }
        for (int k = 0; k < 5; k++) {
            due("new blow of kind " + k, x.blow(0, k, 0), 1);
            due("new right " + k, x.right(k, 0), 0);
        }
        due("new piece", x.piece(0, 0), -1);
        due("new pay", x.pay(0), 0);
        due("new shifted", x.shifted(0), -1);
        due("new moved", x.moved(0), -1);
        due("new rate", x.rate(0), 0);
    }

    private static void rights() {
        GlassHut x = new GlassHut();
        due("right", x.right(4, 10000), 0);
        due("right again", x.right(4, 7), 10000);
        due("right of another site", x.right(0, 5), 0);
        due("right of site -1", x.right(-1, 5), -1);
        due("right of site 5", x.right(5, 5), -1);
        due("right below 0", x.right(4, -1), -1);
        due("right above 10000", x.right(4, 10001), -1);
        due("right after refusals", x.right(4, 0), 7);
    }

    private static void cuts() {
        GlassHut x = new GlassHut();
        due("cut without right", x.cut(1), 0);
        x.right(0, 100);
        due("cut", x.cut(60), 60);
        due("cut up to the right", x.cut(60), 40);
        due("cut of none left", x.cut(1), 0);
        due("cut 0", x.cut(0), -1);
        due("cut -1", x.cut(-1), -1);
        due("cut 10001", x.cut(10001), -1);
        due("stack", x.count(2), 100);
        due("cut in the year", x.count(4), 100);
        x.right(0, 50);
        due("cut beyond a lowered right", x.cut(5), 0);
        due("stack then", x.count(2), 100);
        x.right(0, 101);
        due("cut of a raised right", x.cut(10000), 1);
    }

    private static void cutsByYearAndSite() {
        GlassHut x = new GlassHut();
        x.right(0, 10000);
        x.right(1, 10000);
        x.cut(9000);
        x.pass(499);
        due("cut at hour 499", x.count(4), 9000);
        due("cut of the rest", x.cut(10000), 1000);
        x.pass(1);
        due("cut as the year begins", x.count(4), 0);
        due("cut of a new year", x.cut(10000), 10000);
        due("stack is full", x.count(2), 20000);
        x.pass(500);
        due("cut beside a full stack", x.cut(10), 0);
        due("nothing was cut then", x.count(4), 0);
        x.rate(20);
        x.pass(1);
        due("cut as far as the stack lets", x.cut(500), 20);
        CHECK.due("go", x.go(1), true);
        due("cut on another site", x.count(4), 0);
        due("cut there", x.cut(30), 30);
        CHECK.due("go back", x.go(0), true);
        due("cut on the first site stays", x.count(4), 20);
        due("the stack stayed behind", x.count(2), 0);
        due("the right that is left", x.cut(10000), 9980);
        CHECK.due("go once more", x.go(1), true);
        due("cut there stays", x.count(4), 30);
        x.pass(499);
        due("a new year on the second site", x.count(4), 0);
        x.go(0);
        due("and on the first", x.count(4), 0);
    }

    private static void rates() {
        GlassHut x = new GlassHut();
        due("rate", x.rate(20), 0);
        due("rate again", x.rate(3), 20);
        due("rate -1", x.rate(-1), -1);
        due("rate 21", x.rate(21), -1);
        due("rate after refusals", x.rate(0), 3);
    }

    private static void heatByHours() {
        GlassHut x = new GlassHut();
        x.right(0, 10000);
        x.cut(10000);
        x.rate(20);
        due("heat 1", x.pass(1), 600);
        due("heat 2", x.pass(1), 1170);
        due("heat 3", x.pass(1), 1712);
        due("heat 4", x.pass(1), 2000);
        due("heat 5", x.pass(1), 2000);
        due("stack", x.count(2), 9900);
        x.rate(0);
        due("heat 6", x.pass(1), 1900);
        due("heat 7", x.pass(1), 1805);
        due("heat 8", x.pass(1), 1715);
        due("count of heat", x.count(1), 1715);
        due("stack at rate 0", x.count(2), 9900);
        due("heat far on", x.pass(400), 19);
    }

    private static void stackRunsOut() {
        GlassHut x = new GlassHut();
        x.right(0, 25);
        x.cut(25);
        x.rate(20);
        due("heat of a full rate", x.pass(1), 600);
        due("heat of the rest", x.pass(1), 600 + 150 - 30);
        due("stack", x.count(2), 0);
        due("heat without wood", x.pass(1), 720 - 36);
    }

    private static void colds() {
        GlassHut x = new GlassHut();
        due("cold", x.cold(0, 4999, 1), 1);
        due("cold of one hour", x.cold(4999, 4999, 100), 2);
        due("cold out of order", x.cold(5, 4, 1), -1);
        due("cold from -1", x.cold(-1, 4, 1), -1);
        due("cold to 5000", x.cold(0, 5000, 1), -1);
        due("cold from 5000", x.cold(5000, 5000, 1), -1);
        due("cold of 0 degrees", x.cold(0, 1, 0), -1);
        due("cold of 101 degrees", x.cold(0, 1, 101), -1);
        for (int k = 3; k <= 20; k++) {
            due("cold " + k, x.cold(0, 0, 1), k);
        }
        due("cold 21", x.cold(0, 0, 1), -1);
        x.right(0, 10000);
        x.cut(10000);
        x.rate(10);
        due("heat under twenty spells", x.pass(1), 300 - 19);
        due("heat under one", x.pass(1), 281 + 300 - 14 - 1);
    }

    private static void coldSums() {
        GlassHut x = new GlassHut();
        x.right(0, 10000);
        x.cut(10000);
        x.rate(10);
        x.cold(1, 2, 40);
        x.cold(2, 3, 7);
        due("heat ahead of the cold", x.pass(1), 300);
        due("heat of hour 1", x.pass(1), 300 + 300 - 15 - 40);
        due("heat of hour 2", x.pass(1), 545 + 300 - 27 - 47);
        due("heat of hour 3", x.pass(1), 771 + 300 - 38 - 7);
        due("heat of hour 4", x.pass(1), 1026 + 300 - 51);
        GlassHut y = new GlassHut();
        y.cold(0, 10, 100);
        due("heat not below 0", y.pass(1), 0);
    }

    private static void goes() {
        GlassHut x = Check.hot();
        CHECK.due("go", x.go(4), true);
        due("site", x.count(3), 4);
        due("heat", x.count(1), 0);
        due("stack", x.count(2), 0);
        due("hour", x.count(0), 4);
        due("rate stays", x.rate(20), 20);
        due("cut without right there", x.cut(5), 0);
    }

    private static void goRefused() {
        GlassHut x = Check.hot();
        CHECK.due("go to where it stands", x.go(0), false);
        CHECK.due("go to -1", x.go(-1), false);
        CHECK.due("go to 5", x.go(5), false);
        for (int k = 0; k < 6; k++) {
            x.lay(k, 1, 200, 0);
            CHECK.due("go with a batch in pot " + k, x.go(1), false);
            if (k < 5) {
                x.drop(k);
            }
        }
        x.pass(10);
        x.kind(0, 50, 1, 1, -1, 0, 3);
        x.blow(0, 0, 5);
        x.drop(5);
        CHECK.due("go with a piece in a bay", x.go(1), false);
        due("heat stays", x.count(1), 2000);
        due("stack stays", x.count(2), 10000 - 14 * 20);
        x.pass(3);
        CHECK.due("go as it is stored", x.go(1), true);
    }

    private static void passes() {
        GlassHut x = new GlassHut();
        due("pass 0", x.pass(0), -1);
        due("pass -1", x.pass(-1), -1);
        due("pass 501", x.pass(501), -1);
        due("pass the most", x.pass(Integer.MAX_VALUE), -1);
        due("hour", x.count(0), 0);
        due("pass 500", x.pass(500), 0);
        due("hour then", x.count(0), 500);
    }

    private static void theEnd() {
        GlassHut x = new GlassHut();
        x.right(0, 100);
        x.kind(0, 1, 1, 100, -1, 0, 1);
        for (int k = 0; k < 9; k++) {
            x.pass(500);
        }
        x.pass(499);
        due("pass beyond the end", x.pass(2), -1);
        due("hour 4999", x.count(0), 4999);
        due("cut in the last hour", x.cut(1), 1);
        due("lay in the last hour", x.lay(0, 3, 3, 0), 0);
        due("pass to the end", x.pass(1), 0);
        due("hour 5000", x.count(0), 5000);
        due("pass at the end", x.pass(1), -1);
        due("cut at the end", x.cut(1), -1);
        due("lay at the end", x.lay(1, 1, 1, 0), -1);
        due("blow at the end", x.blow(0, 0, 0), 1);
        due("drop at the end", x.drop(0), 4);
        CHECK.due("go at the end", x.go(1), false);
        due("batches", x.count(6), 1);
    }
}
