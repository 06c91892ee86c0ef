/** Huts in told states, and all that a hut holds. */
final class Probe {
    private static final int[][] SAND_AND_ASH = {{1, 0}, {80, 20}, {50, 50}, {1, 200}};

    private Probe() {
    }

    /** A hut at hour 10 that has something of everything; pots 3 to 5 are empty, kind 4 is not told. */
    static GlassHut rich() {
        GlassHut x = Check.hot();
        x.right(1, 300);
        x.right(4, 10000);
        Check.spans(x, "clear 0 19;green 20 60;brown 99 99");
        x.buy(300);
        x.lay(0, 1, 200, 0);
        x.lay(1, 60, 60, 100);
        x.lay(2, 200, 0, 0);
        x.pass(4);
        x.kind(0, 5, 6, 150, -1, 3, 2);
        x.kind(1, 7, 11, 990, 2, 0, 3);
        x.kind(2, 2, 3, 40, 0, 2, 40);
        x.kind(3, 50, 60, 10000, 1, 50, 40);
        for (int k = 0; k < 3; k++) {
            x.blow(0, 0, 0);
        }
        x.blow(1, 1, 0);
        x.pass(2);
        x.blow(2, 1, 0);
        x.cold(10, 14, 30);
        x.cold(13, 13, 100);
        plans(x);
        Check.tape(x, "c 0 19;d 20 98;e 99 99;f");
        x.end(22);
        return x;
    }

    private static void plans(GlassHut x) {
        x.shift(100, 100, 1);
        for (int k = 0; k < 5; k++) {
            x.cost(k, 2 * k, 10 + k);
            x.way(k, (k + 1) % 5, 3 + k);
        }
        x.move(4);
    }

    /** The last hour (4999) of a hut with a piece in bay 0, a ready batch in pot 0 and pots 1 to 5 empty. */
    static GlassHut lastHour() {
        GlassHut x = new GlassHut();
        x.right(0, 10000);
        x.kind(0, 5, 6, 150, -1, 0, 40);
        for (int k = 0; k < 9; k++) {
            x.pass(500);
        }
        x.cut(9000);
        x.lay(0, 1, 200, 0);
        x.rate(18);
        x.pass(498);
        x.blow(0, 0, 0);
        x.pass(1);
        return x;
    }

    /** The same hut at the end. */
    static GlassHut ended() {
        GlassHut x = lastHour();
        x.pass(1);
        return x;
    }

    /** A hut with nothing in its pots and bays, at the end. */
    static GlassHut endedEmpty() {
        GlassHut x = new GlassHut();
        x.right(0, 10000);
        x.right(1, 10000);
        for (int k = 0; k < 10; k++) {
            x.pass(500);
        }
        return x;
    }

    /** All that a hut holds, what can't be asked for too; the calls that show this use the hut up. */
    static String all(GlassHut x) {
        StringBuilder told = new StringBuilder();
        counts(x, told);
        pots(x, told);
        latestPieces(x, told);
        answers(x, told);
        hours(x, told);
        colours(x, told);
        told.append(x.spans()).append(' ');
        colours(x, told);
        numbers(x, told);
        shifts(x, told);
        told.append(x.cold(0, 0, 1)).append(' ');
        counts(x, told);
        latestPieces(x, told);
        return told.toString();
    }

    private static void counts(GlassHut x, StringBuilder told) {
        for (int what = 0; what <= 12; what++) {
            told.append(x.count(what)).append(' ');
        }
        for (int k = 0; k < 4; k++) {
            told.append(x.count(20 + k)).append(' ');
        }
        for (int k = 0; k < 5; k++) {
            told.append(x.count(30 + k)).append(' ');
        }
    }

    private static void pots(GlassHut x, StringBuilder told) {
        for (int k = 0; k < 6; k++) {
            for (int what = 0; what < 6; what++) {
                told.append(x.pot(k, what)).append(' ');
            }
        }
    }

    private static void latestPieces(GlassHut x, StringBuilder told) {
        int many = x.count(7);
        for (int k = Math.max(0, many - 6); k < many; k++) {
            for (int what = 0; what < 7; what++) {
                told.append(x.piece(k, what)).append(' ');
            }
        }
    }

    private static void answers(GlassHut x, StringBuilder told) {
        for (int k = 0; k < 4; k++) {
            told.append(x.pay(k)).append(' ');
        }
        for (int k = 0; k < 7; k++) {
            told.append(x.shifted(k)).append(' ');
        }
        for (int k = 0; k < 10; k++) {
            told.append(x.moved(k)).append(' ');
        }
    }

    /** What is blown, and the heat of the next hours: so the kinds, the rate and the cold spells show. */
    private static void hours(GlassHut x, StringBuilder told) {
        for (int k = 0; k < 5; k++) {
            told.append(x.blow(3, k, 0)).append(' ');
        }
        for (int k = 0; k < 8; k++) {
            told.append(x.pass(1)).append(' ');
        }
    }

    private static void colours(GlassHut x, StringBuilder told) {
        for (int[] both : SAND_AND_ASH) {
            x.drop(5);
            x.lay(5, both[0], both[1], 0);
            told.append(x.pot(5, 5)).append(' ');
        }
    }

    private static void numbers(GlassHut x, StringBuilder told) {
        told.append(x.rate(0)).append(' ');
        for (int k = 0; k < 5; k++) {
            told.append(x.right(k, 0)).append(' ');
            for (int year = 0; year < 10; year++) {
                told.append(x.cost(k, year, 0)).append(' ');
            }
            for (int to = 0; to < 5; to++) {
                told.append(x.way(k, to, 0)).append(' ');
            }
        }
    }

    private static void shifts(GlassHut x, StringBuilder told) {
        for (int colour = 0; colour < 4; colour++) {
            told.append(x.shift(60, 60, colour)).append(' ');
            for (int k = 0; k < 7; k++) {
                told.append(x.shifted(k)).append(' ');
            }
        }
    }
}
