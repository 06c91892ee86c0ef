import java.util.Random;

/** Promises 20 and 21: shift and shifted, against a search through all numbers. */
public final class ShiftTest {
    private static final Check CHECK = new Check();

    public static void main(String[] args) {
        edges();
        fewestMinutes();
        leastKindFirst();
        coloursCount();
        largest();
        againstSearch();
        CHECK.finish();
    }

    private static void due(String call, long got, long want) {
        CHECK.due(call, got, want);
    }

    private static void edges() {
        GlassHut x = new GlassHut();
        for (int what = -1; what <= 7; what++) {
            due("shifted ahead of any", x.shifted(what), -1);
        }
        due("minutes -1", x.shift(-1, 0, 0), -1);
        due("minutes 481", x.shift(481, 0, 0), -1);
        due("glass -1", x.shift(0, -1, 0), -1);
        due("glass 501", x.shift(0, 501, 0), -1);
        due("colour -1", x.shift(0, 0, -1), -1);
        due("colour 8", x.shift(0, 0, 8), -1);
        due("still ahead of any", x.shifted(0), -1);
        due("without kinds", x.shift(480, 500, 7), 0);
        for (int what = 0; what <= 6; what++) {
            due("shifted " + what, x.shifted(what), 0);
        }
        x.kind(2, 10, 20, 30, -1, 2, 1);
        due("one kind", x.shift(100, 100, 0), 150);
        due("shifted -1", x.shifted(-1), -1);
        due("shifted 7", x.shifted(7), -1);
        due("shifted 2", x.shifted(2), 5);
        due("shifted 5", x.shifted(5), 100);
        due("shifted 6", x.shifted(6), 50);
        due("refused", x.shift(481, 0, 0), -1);
        due("the latest stays", x.shifted(2), 5);
        x.kind(2, 20, 1, 7, -1, 0, 1);
        due("a kind told anew changes no latest", x.shifted(6), 50);
        due("too little glass", x.shift(480, 19, 0), 0);
        due("none then", x.shifted(2), 0);
        due("no minutes", x.shift(0, 500, 0), 0);
        due("just enough", x.shift(1, 20, 0), 7);
    }

    private static void fewestMinutes() {
        GlassHut x = new GlassHut();
        x.kind(0, 10, 10, 100, -1, 0, 1);
        x.kind(1, 10, 9, 100, -1, 0, 1);
        due("equal prices", x.shift(20, 20, 0), 200);
        due("of kind 1", x.shifted(1), 2);
        due("minutes", x.shifted(5), 18);
        x.kind(0, 5, 10, 100, -1, 0, 1);
        due("glass is short", x.shift(40, 20, 0), 400);
        due("of kind 0", x.shifted(0), 4);
    }

    private static void leastKindFirst() {
        GlassHut x = new GlassHut();
        x.kind(1, 10, 10, 100, -1, 0, 1);
        x.kind(3, 10, 10, 100, -1, 0, 1);
        x.kind(4, 1, 10, 100, -1, 0, 1);
        due("all alike", x.shift(40, 23, 0), 400);
        due("most of kind 1", x.shifted(1), 2);
        due("of kind 3", x.shifted(3), 0);
        due("of kind 4", x.shifted(4), 2);
        due("glass", x.shifted(6), 22);
    }

    private static void coloursCount() {
        GlassHut x = new GlassHut();
        x.kind(0, 1, 1, 50, 0, 0, 1);
        x.kind(1, 1, 1, 40, 7, 0, 1);
        x.kind(2, 1, 1, 30, -1, 0, 1);
        due("colour 0", x.shift(10, 10, 0), 500);
        due("colour 7", x.shift(10, 10, 7), 400);
        due("colour 3", x.shift(10, 10, 3), 300);
        due("any", x.shifted(2), 10);
    }

    private static void largest() {
        GlassHut x = new GlassHut();
        x.kind(4, 1, 1, 10000, -1, 0, 1);
        due("the greatest sum", x.shift(480, 500, 0), 4800000);
        due("the greatest number", x.shifted(4), 480);
        x.kind(0, 1, 1, 10000, -1, 0, 1);
        due("all of kind 0", x.shift(480, 500, 0), 4800000);
        due("of kind 0", x.shifted(0), 480);
        due("of kind 4", x.shifted(4), 0);
        x.kind(0, 50, 60, 10000, -1, 0, 1);
        due("kind 4 again", x.shift(480, 499, 0), 4800000);
        due("glass of it", x.shifted(6), 480);
    }

    private static void againstSearch() {
        Random dice = new Random(7);
        for (int round = 0; round < 400; round++) {
            GlassHut x = new GlassHut();
            int[][] kinds = new int[5][];
            int prices = round % 3 == 0 ? 4 : round % 3 == 1 ? 40 : 10000;
            for (int k = 0; k < 5; k++) {
                if (dice.nextInt(6) > 0) {
                    kinds[k] = new int[] {12 + dice.nextInt(39), 15 + dice.nextInt(46), 1 + dice.nextInt(prices),
                        dice.nextInt(3) - 1};
                    if (round % 4 == 0 && k > 0 && kinds[k - 1] != null) {
                        kinds[k][1] = kinds[k - 1][1];
                    }
                    x.kind(k, kinds[k][0], kinds[k][1], kinds[k][2], kinds[k][3], 0, 1);
                }
            }
            for (int k = 0; k < 3; k++) {
                compare(x, kinds, dice.nextInt(300), dice.nextInt(300), dice.nextInt(3));
            }
        }
    }

    private static void compare(GlassHut x, int[][] kinds, int minutes, int glass, int colour) {
        int[] best = null;
        best = search(kinds, colour, 0, new int[8], minutes, glass, best);
        due("shift", x.shift(minutes, glass, colour), best[7]);
        for (int what = 0; what < 7; what++) {
            due("shifted " + what, x.shifted(what), best[what]);
        }
    }

    /** A row has the five numbers, minutes, glass and the sum of prices. */
    private static int[] search(int[][] kinds, int colour, int k, int[] row, int minutes, int glass, int[] best) {
        if (k == 5) {
            return best == null || better(row, best) ? row.clone() : best;
        }
        best = search(kinds, colour, k + 1, row, minutes, glass, best);
        int[] kind = kinds[k];
        if (kind == null || kind[3] != -1 && kind[3] != colour) {
            return best;
        }
        for (int many = 1; row[5] + many * kind[1] <= minutes && row[6] + many * kind[0] <= glass; many++) {
            int[] more = row.clone();
            more[k] = many;
            more[5] += many * kind[1];
            more[6] += many * kind[0];
            more[7] += many * kind[2];
            best = search(kinds, colour, k + 1, more, minutes, glass, best);
        }
        return best;
    }

    private static boolean better(int[] one, int[] other) {
        if (one[7] != other[7]) {
            return one[7] > other[7];
        }
        if (one[5] != other[5]) {
            return one[5] < other[5];
        }
        for (int k = 0; k < 5; k++) {
            if (one[k] != other[k]) {
                return one[k] > other[k];
            }
        }
        return false;
    }
}
