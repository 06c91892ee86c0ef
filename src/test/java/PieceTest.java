/** Promises 13 to 15, 18 and 19: kind, blow, open, piece, pay. */
public final class PieceTest {
    private static final Check CHECK = new Check();

    public static void main(String[] args) {
        kinds();
        reasons();
        leastReason();
        glassAndMinutes();
        breaks();
        bays();
        cooling();
        opens();
        toldAnew();
        pieces();
        pays();
        CHECK.finish();
    }

    private static void due(String call, long got, long want) {
        CHECK.due(call, got, want);
    }

    /** A hot hut with ready batches of 101 in all pots, at hour 8. */
    private static GlassHut ready() {
        GlassHut x = Check.hot();
        Check.spans(x, "a 0 50;b 99 99");
        for (int k = 0; k < 6; k++) {
            x.lay(k, 1, 200, 0);
        }
        x.pass(4);
        return x;
    }

    private static void kinds() {
        GlassHut x = new GlassHut();
        int[] least = {0, 1, 1, 1, -1, 0, 1};
        int[] most = {4, 50, 60, 10000, 7, 50, 40};
        kind(x, least, true);
        kind(x, most, true);
        for (int k = 0; k < 7; k++) {
            int[] below = least.clone();
            below[k]--;
            kind(x, below, false);
            int[] above = most.clone();
            above[k]++;
            kind(x, above, false);
        }
        CHECK.due("breaks 1", x.kind(0, 1, 1, 1, 0, 1, 1), false);
        CHECK.due("breaks 2", x.kind(0, 1, 1, 1, 0, 2, 1), true);
        GlassHut y = new GlassHut();
        y.kind(0, 10, 10, 10, -1, 0, 0);
        due("no kind by a refused one", y.shift(100, 100, 0), 0);
        y.kind(0, 10, 10, 10, -1, 0, 1);
        y.kind(0, 10, 10, 11, -1, 1, 1);
        due("a refused one changes nothing", y.shift(10, 10, 0), 10);
        CHECK.due("told anew", y.kind(0, 10, 10, 12, -1, 0, 1), true);
        due("the new price", y.shift(10, 10, 0), 12);
    }

    private static void kind(GlassHut x, int[] n, boolean want) {
        CHECK.due("kind " + java.util.Arrays.toString(n), x.kind(n[0], n[1], n[2], n[3], n[4], n[5], n[6]), want);
    }

    private static void reasons() {
        GlassHut x = ready();
        x.kind(0, 50, 30, 100, 1, 0, 40);
        x.kind(1, 50, 30, 100, 0, 0, 40);
        String before = Check.all(x);
        due("gang -1", x.blow(-1, 0, 0), 1);
        due("gang 4", x.blow(4, 0, 0), 1);
        due("pot -1", x.blow(0, 0, -1), 1);
        due("pot 6", x.blow(0, 0, 6), 1);
        due("kind -1", x.blow(0, -1, 0), 1);
        due("kind 5", x.blow(0, 5, 0), 1);
        due("kind not told", x.blow(0, 2, 0), 1);
        due("another colour", x.blow(0, 1, 0), 4);
        CHECK.due("nothing happened", before.equals(Check.all(x)), true);
        x.drop(0);
        due("empty", x.blow(0, 0, 0), 2);
        x.lay(0, 1, 200, 0);
        due("not ready", x.blow(0, 0, 0), 2);
        due("blow", x.blow(0, 0, 1), 0);
        due("blow again", x.blow(0, 0, 1), 0);
        due("no glass", x.blow(1, 0, 1), 5);
        due("no minutes", x.blow(0, 0, 2), 6);
        due("another gang", x.blow(1, 0, 2), 0);
        x.rate(0);
        while (x.count(1) >= 900) {
            due("hot enough", x.count(20 + 3), 60);
            x.pass(1);
        }
        due("heat below 900", x.blow(3, 0, 3), 3);
        GlassHut y = ready();
        y.kind(0, 1, 1, 1, -1, 0, 1);
        for (int k = 0; k < 10; k++) {
            y.cold(8, 8, 100);
        }
        y.rate(0);
        due("heat 900", y.pass(1), 900);
        due("blow at 900", y.blow(0, 0, 0), 0);
        y.cold(9, 9, 46);
        y.rate(3);
        due("heat 899", y.pass(1), 900 + 90 - 45 - 46);
        due("blow below 900", y.blow(0, 0, 0), 3);
        anyColour();
    }

    private static void anyColour() {
        GlassHut x = Check.hot();
        x.lay(0, 1, 200, 0);
        x.pass(4);
        x.kind(0, 1, 1, 1, 0, 0, 1);
        due("a batch without colour", x.blow(0, 0, 0), 4);
        x.kind(0, 1, 1, 1, -1, 0, 1);
        due("any colour", x.blow(0, 0, 0), 0);
    }

    /** From all reasons at once one after the other is taken away. */
    private static void leastReason() {
        GlassHut x = Check.hot();
        Check.spans(x, "b 90 100;c 33 33");
        x.lay(0, 1, 200, 0);
        x.lay(2, 2, 1, 0);
        x.lay(3, 100, 0, 0);
        x.pass(20);
        x.kind(0, 1, 1, 100, -1, 0, 40);
        for (int k = 0; k < 60; k++) {
            due("blow " + k, x.blow(k / 30, 0, 0), 0);
        }
        x.kind(1, 50, 60, 100, 0, 0, 40);
        x.lay(1, 200, 0, 0);
        due("not ready first", x.blow(0, 1, 1), 2);
        due("another colour ahead of no glass", x.blow(0, 1, 2), 4);
        x.kind(1, 50, 60, 100, 1, 0, 40);
        due("no glass ahead of no minutes", x.blow(0, 1, 2), 5);
        x.kind(1, 1, 60, 100, 1, 0, 40);
        due("no minutes ahead of no room", x.blow(0, 1, 2), 6);
        x.kind(1, 1, 30, 100, 1, 2, 40);
        due("no room", x.blow(0, 1, 2), 7);
        x.rate(0);
        while (x.count(1) >= 900) {
            x.pass(1);
        }
        due("heat ahead of another colour", x.blow(0, 1, 0), 3);
        due("not told ahead of an empty pot", x.blow(0, 4, 5), 1);
        due("empty ahead of no heat", x.blow(0, 1, 5), 2);
    }

    private static void glassAndMinutes() {
        GlassHut x = ready();
        x.kind(0, 50, 20, 100, -1, 0, 1);
        x.kind(1, 1, 20, 100, -1, 0, 1);
        due("blow", x.blow(2, 0, 4), 0);
        due("glass", x.pot(4, 1), 51);
        due("minutes", x.count(22), 40);
        due("minutes of another", x.count(21), 60);
        due("blow 2", x.blow(2, 0, 4), 0);
        due("blow 3", x.blow(2, 1, 4), 0);
        due("the pot is empty", x.pot(4, 0), -1);
        due("minutes are gone", x.count(22), 0);
        due("heap", x.count(5), 0);
        due("of kind 0", x.count(30), 2);
        due("of kind 1", x.count(31), 1);
        due("pieces", x.count(7), 3);
        due("in bay 0", x.count(10), 3);
        x.pass(1);
        due("minutes again", x.count(22), 60);
        due("in bay 0 then", x.count(10), 0);
        due("lay into it", x.lay(4, 1, 1, 0), 6);
    }

    private static void breaks() {
        GlassHut x = ready();
        x.kind(0, 7, 1, 100, -1, 3, 5);
        x.kind(1, 2, 1, 100, -1, 2, 5);
        for (int k = 1; k <= 6; k++) {
            due("blow " + k, x.blow(0, 0, 0), 0);
            due("heap after " + k, x.count(5), 7 * (k / 3));
            due("in the bay after " + k, x.count(10), k - k / 3);
        }
        due("state of the third", x.piece(2, 4), 2);
        due("state of the second", x.piece(1, 4), 0);
        due("bay of the third", x.piece(2, 5), -1);
        due("blow of kind 1", x.blow(0, 1, 0), 0);
        due("its first stands", x.piece(6, 4), 0);
        due("blow of kind 1 again", x.blow(0, 1, 0), 0);
        due("its second breaks", x.piece(7, 4), 2);
        due("heap", x.count(5), 16);
        x.kind(0, 7, 1, 100, -1, 7, 5);
        x.blow(0, 0, 0);
        due("the seventh by the new number", x.piece(8, 4), 2);
        x.kind(0, 7, 1, 100, -1, 0, 5);
        x.blow(0, 0, 0);
        due("none breaks", x.piece(9, 4), 0);
        due("of kind 0", x.count(30), 8);
        x.pass(5);
        due("broken ones do not cool", x.piece(2, 6), 0);
        due("and stay broken", x.piece(2, 4), 2);
        due("the others are stored", x.piece(0, 4), 1);
    }

    private static void bays() {
        GlassHut x = ready();
        x.kind(0, 1, 1, 100, -1, 0, 40);
        x.kind(1, 3, 1, 100, -1, 2, 40);
        for (int k = 0; k < 60; k++) {
            due("blow " + k, x.blow(0, 0, 0), 0);
            due("bay of " + k, x.piece(k, 5), k / 20);
        }
        for (int k = 10; k < 13; k++) {
            due("full bay", x.count(k), 20);
        }
        due("no room", x.blow(1, 0, 0), 7);
        due("no room for one that stands", x.blow(1, 1, 0), 7);
        x.open(1);
        due("room in bay 1", x.blow(1, 1, 0), 0);
        due("its bay", x.piece(60, 5), 1);
        for (int k = 0; k < 19; k++) {
            due("blow " + k, x.blow(1, 0, 0), 0);
        }
        due("no room though it would break", x.blow(1, 1, 0), 7);
        due("of kind 1", x.count(31), 1);
        due("pieces", x.count(7), 80);
    }

    private static void cooling() {
        GlassHut x = ready();
        x.kind(0, 1, 1, 100, -1, 0, 1);
        x.kind(1, 1, 1, 100, -1, 0, 3);
        x.blow(0, 1, 0);
        x.blow(0, 0, 0);
        x.blow(0, 1, 0);
        x.pass(1);
        due("stored", x.piece(1, 4), 1);
        due("hours of it", x.piece(1, 6), 1);
        due("in the bay", x.piece(0, 4), 0);
        due("hours of that", x.piece(0, 6), 1);
        due("two in the bay", x.count(10), 2);
        x.blow(0, 1, 0);
        x.pass(2);
        due("stored 0", x.piece(0, 4), 1);
        due("stored 2", x.piece(2, 4), 1);
        due("one in the bay", x.count(10), 1);
        due("its hours", x.piece(3, 6), 2);
        x.pass(1);
        due("stored 3", x.piece(3, 4), 1);
        x.pass(50);
        due("hours of 0 stay", x.piece(0, 6), 3);
        due("bay of 0 stays", x.piece(0, 5), 0);
    }

    private static void opens() {
        GlassHut x = ready();
        x.kind(0, 4, 1, 100, -1, 0, 10);
        due("open an empty bay", x.open(0), 0);
        due("open -1", x.open(-1), -1);
        due("open 3", x.open(3), -1);
        for (int k = 0; k < 22; k++) {
            x.blow(0, 0, 0);
        }
        x.pass(4);
        due("open bay 1", x.open(1), 2);
        due("heap", x.count(5), 8);
        due("state", x.piece(20, 4), 3);
        due("bay", x.piece(21, 5), 1);
        due("hours", x.piece(21, 6), 4);
        due("bay 1 is empty", x.count(11), 0);
        due("bay 0 is not", x.count(10), 20);
        due("open again", x.open(1), 0);
        x.pass(6);
        due("stored", x.piece(0, 4), 1);
        due("broken stays so", x.piece(20, 4), 3);
        due("hours stay", x.piece(20, 6), 4);
        due("open of stored ones", x.open(0), 0);
        due("heap stays", x.count(5), 8);
        due("stored stays", x.piece(0, 4), 1);
        for (int k = 0; k < 41; k++) {
            x.blow(k / 30, 0, 2 + k / 25);
        }
        due("open bay 2", x.open(2), 1);
        due("open bay 1 then", x.open(1), 20);
        due("heap of these", x.count(5), 8 + 84);
    }

    private static void toldAnew() {
        GlassHut x = ready();
        x.kind(0, 4, 1, 100, -1, 0, 3);
        x.blow(0, 0, 0);
        x.kind(0, 9, 1, 100, -1, 0, 1);
        x.pass(1);
        due("cooling hours as it was blown", x.piece(0, 4), 0);
        due("open", x.open(0), 1);
        due("weight as it was blown", x.count(5), 4);
        due("blown stays", x.count(30), 1);
    }

    private static void pieces() {
        GlassHut x = ready();
        x.kind(3, 4, 1, 100, -1, 0, 3);
        x.drop(2);
        x.lay(2, 1, 200, 0);
        x.pass(4);
        x.blow(2, 3, 2);
        int[] want = {3, 2, 6, 12, 0, 0, 0};
        for (int what = 0; what < 7; what++) {
            due("what " + what, x.piece(0, what), want[what]);
        }
        due("what -1", x.piece(0, -1), -1);
        due("what 7", x.piece(0, 7), -1);
        due("piece -1", x.piece(-1, 0), -1);
        due("piece 1", x.piece(1, 0), -1);
        due("piece 1000", x.piece(1000, 0), -1);
    }

    private static void pays() {
        GlassHut x = ready();
        x.kind(0, 1, 1, 150, -1, 0, 1);
        x.kind(1, 1, 1, 99, -1, 0, 1);
        x.kind(2, 1, 1, 10000, -1, 0, 2);
        for (int k = 0; k < 3; k++) {
            x.blow(1, 0, 0);
        }
        x.blow(1, 1, 0);
        x.blow(1, 2, 0);
        x.blow(2, 0, 0);
        x.blow(3, 0, 0);
        x.blow(3, 0, 0);
        due("nothing is stored yet", x.pay(1), 0);
        x.pass(1);
        due("pay, each kind downwards", x.pay(1), 4 + 0);
        due("pay of gang 2", x.pay(2), 1);
        due("pay of gang 3", x.pay(3), 3);
        due("pay of gang 0", x.pay(0), 0);
        x.pass(1);
        due("pay then", x.pay(1), 104);
        x.kind(0, 1, 1, 199, -1, 0, 1);
        due("the price as it is now", x.pay(1), 5 + 0 + 100);
        x.blow(1, 2, 0);
        x.open(0);
        x.pass(2);
        due("a broken one is not paid", x.pay(1), 105);
        due("pay of -1", x.pay(-1), -1);
        due("pay of 4", x.pay(4), -1);
    }
}
