/** The edges of promise 26: each what at its least and greatest, and those that are none. */
public final class CountEdgesTest {
    private static final Check CHECK = new Check();

    public static void main(String[] args) {
        ofANewObject();
        others();
        leastAndGreatest();
        bays();
        gangs();
        kinds();
        changesNothing();
        CHECK.finish();
    }

    private static void due(String call, long got, long want) {
        CHECK.due(call, got, want);
    }

    private static boolean isWhat(int what) {
        return what >= 0 && what <= 12 || what >= 20 && what <= 23 || what >= 30 && what <= 34;
    }

    private static void ofANewObject() {
        CHECK.sentence("What 0: NOW, 1: HEAT, .. of a new object");
        GlassHut x = new GlassHut();
        for (int what = -3; what < 60; what++) {
            due("count(" + what + ")", x.count(what), !isWhat(what) ? -1 : what >= 20 && what <= 23 ? 60 : 0);
        }
    }

    private static void others() {
        CHECK.sentence("count: NONE for others.");
        GlassHut x = Probe.rich();
        for (int what = -100; what < 200; what++) {
            CHECK.due("count(" + what + ") is one", x.count(what) != -1, isWhat(what));
        }
        for (int what : new int[] {Integer.MIN_VALUE, Integer.MIN_VALUE + 10, Integer.MAX_VALUE, 1 << 16, 256}) {
            due("count(" + what + ")", x.count(what), -1);
        }
    }

    private static void leastAndGreatest() {
        CHECK.sentence("0: NOW, 1: HEAT, 2: STACK, 3: the SITE, 4: cut in this YEAR on the SITE, at their greatest");
        GlassHut x = new GlassHut();
        x.go(4);
        due("site", x.count(3), 4);
        x.right(4, 10000);
        x.cut(10000);
        due("cut", x.count(4), 10000);
        x.pass(500);
        x.cut(10000);
        due("stack", x.count(2), 20000);
        x.rate(20);
        x.pass(4);
        due("heat", x.count(1), 2000);
        due("now", x.count(0), 504);
        CHECK.sentence("5: BROKEN glass on the heap, 8: bytes of the TAPE, 9: SPANS, at their greatest");
        for (int k = 0; k < 20; k++) {
            x.buy(5000);
        }
        due("heap", x.count(5), 100000);
        Check.spans(x, "a 1 2;b 1 2;c 1 2;d 1 2;e 1 2;f 1 2;g 1 2;h 1 2");
        due("spans", x.count(9), 8);
        for (int k = 0; k < 10; k++) {
            x.feed(0, 0, 0, 0, 0);
        }
        due("tape", x.count(8), 200);
    }

    /** A hut with a ready batch of 101 in pot 0 and kinds of a minute and a glass. */
    private static GlassHut ready() {
        GlassHut x = Check.hot();
        x.lay(0, 1, 200, 0);
        x.pass(4);
        for (int k = 0; k < 5; k++) {
            x.kind(k, 1, 1, 1, -1, 0, 40);
        }
        return x;
    }

    private static void bays() {
        CHECK.sentence("10 to 12: PIECES in BAYS");
        GlassHut x = ready();
        for (int k = 0; k < 60; k++) {
            x.blow(0, 0, 0);
        }
        due("bay 0", x.count(10), 20);
        due("bay 1", x.count(11), 20);
        due("bay 2", x.count(12), 20);
        x.open(1);
        due("bay 0 then", x.count(10), 20);
        due("bay 1 then", x.count(11), 0);
        due("bay 2 then", x.count(12), 20);
        due("none beside them", x.count(13), -1);
    }

    private static void gangs() {
        CHECK.sentence("20 to 23: MINUTES of GANGS");
        GlassHut x = ready();
        for (int gang = 0; gang < 4; gang++) {
            for (int k = 0; k < gang; k++) {
                x.blow(gang, 0, 0);
            }
        }
        for (int gang = 0; gang < 4; gang++) {
            due("gang " + gang, x.count(20 + gang), 60 - gang);
        }
        due("none ahead of them", x.count(19), -1);
        due("none behind them", x.count(24), -1);
    }

    private static void kinds() {
        CHECK.sentence("30 to 34: PIECES of a KIND blown; 6: BATCHES laid in, 7: PIECES blown");
        GlassHut x = ready();
        for (int kind = 0; kind < 5; kind++) {
            for (int k = 0; k <= kind; k++) {
                x.blow(0, kind, 0);
            }
        }
        for (int kind = 0; kind < 5; kind++) {
            due("kind " + kind, x.count(30 + kind), kind + 1);
        }
        due("pieces", x.count(7), 15);
        due("batches", x.count(6), 1);
        x.open(0);
        x.drop(0);
        due("pieces that broke stay blown", x.count(7), 15);
        due("kind 4 too", x.count(34), 5);
        due("batches stay laid in", x.count(6), 1);
        due("none ahead of them", x.count(29), -1);
        due("none behind them", x.count(35), -1);
    }

    private static void changesNothing() {
        CHECK.sentence("What is asked for changes nothing");
        GlassHut x = Probe.rich();
        for (int what = -1; what < 36; what++) {
            x.count(what);
        }
        for (int what = -1; what < 11; what++) {
            x.pot(0, what);
            x.piece(0, what);
            x.pay(what);
            x.shifted(what);
            x.moved(what);
        }
        CHECK.due("all as it was", Probe.all(x).equals(Probe.all(Probe.rich())), true);
    }
}
