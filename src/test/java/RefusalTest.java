import java.util.Random;

/** Of all promises: a call that answers NONE, false or a reason leaves all as it was, and no call ever throws. */
public final class RefusalTest {
    private static final int[] ODD = {Integer.MIN_VALUE, Integer.MIN_VALUE + 1, -1000000, -2, -1, 0, 1, 5, 6, 7, 8,
        20, 21, 50, 51, 60, 61, 100, 101, 200, 201, 480, 481, 500, 501, 1000, 4999, 5000, 5001, 10000, 10001,
        100000, 100001, Integer.MAX_VALUE - 1, Integer.MAX_VALUE};

    public static void main(String[] args) {
        Check check = new Check();
        for (int seed = 0; seed < 300; seed++) {
            Random dice = new Random(seed);
            GlassHut x = seed % 2 == 0 ? new GlassHut() : Check.hot();
            for (int k = 0; k < 400; k++) {
                boolean watched = dice.nextInt(8) == 0;
                String before = watched ? Check.all(x) : "";
                int call = dice.nextInt(25);
                int[] n = new int[7];
                for (int i = 0; i < 7; i++) {
                    n[i] = dice.nextInt(4) > 0 ? dice.nextInt(7) : ODD[dice.nextInt(ODD.length)];
                }
                boolean refused = call(x, call, n);
                if (watched && refused) {
                    check.due("seed " + seed + " call " + call + " left all as it was",
                            before.equals(Check.all(x)), true);
                }
            }
        }
        check.finish();
    }

    /** Makes a call; answers if it was refused. */
    private static boolean call(GlassHut x, int call, int[] n) {
        switch (call) {
            case 0: return x.right(n[0], n[1]) == -1;
            case 1: return x.cut(n[0]) == -1;
            case 2: return x.rate(n[0]) == -1;
            case 3: return x.cold(n[0], n[1], n[2]) == -1;
            case 4: return !x.go(n[0]);
            case 5: return x.feed(n[0], n[1], n[2], n[3], n[4]) == -1;
            case 6: return x.end(n[0]) == -1;
            case 7: return x.spans() == -1;
            case 8: return x.lay(n[0], n[1], n[2], n[3]) == -1;
            case 9: return x.buy(n[0]) == -1;
            case 10: return x.drop(n[0]) == -1;
            case 11: return !x.kind(n[0], n[1], n[2], n[3], n[4], n[5], n[6]);
            case 12: return x.blow(n[0], n[1], n[2]) != 0;
            case 13: return x.open(n[0]) == -1;
            case 14: return x.pass(n[0]) == -1;
            case 15: return x.pot(n[0], n[1]) == -1;
            case 16: return x.piece(n[0], n[1]) == -1;
            case 17: return x.pay(n[0]) == -1;
            case 18: return x.shift(n[0], n[1], n[2]) == -1;
            case 19: return x.shifted(n[0]) == -1;
            case 20: return x.cost(n[0], n[1], n[2]) == -1;
            case 21: return x.way(n[0], n[1], n[2]) == -1;
            case 22: return x.move(n[0]) == -1;
            case 23: return x.moved(n[0]) == -1;
            default: return x.count(n[0]) == -1;
        }
    }
}
