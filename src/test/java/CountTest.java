/** Promise 26: count, each what with a value of its own. */
public final class CountTest {
    public static void main(String[] args) {
        Check check = new Check();
        GlassHut x = new GlassHut();
        x.right(3, 9000);
        x.go(3);
        x.cut(8000);
        x.rate(20);
        Check.spans(x, "a 0 10;b 11 100");
        x.buy(77);
        x.lay(0, 1, 200, 7);
        x.lay(1, 1, 200, 0);
        x.pass(8);
        x.kind(0, 1, 2, 1, -1, 0, 40);
        x.kind(4, 1, 3, 1, -1, 0, 40);
        for (int k = 0; k < 22; k++) {
            x.blow(1, 0, 0);
        }
        for (int k = 0; k < 20; k++) {
            x.blow(3, 4, 1);
        }
        x.feed(0, 0, 0, 0, 0);
        x.end(13);
        int[] want = new int[45];
        java.util.Arrays.fill(want, -1);
        int[] first = {8, 2000, 8000 - 160, 3, 8000, 70, 2, 42, 13, 2, 20, 20, 2};
        System.arraycopy(first, 0, want, 0, first.length);
        int[] minutes = {60, 16, 60, 0};
        System.arraycopy(minutes, 0, want, 20, 4);
        int[] kinds = {22, 0, 0, 0, 20};
        System.arraycopy(kinds, 0, want, 30, 5);
        for (int what = -5; what < 45; what++) {
            check.due("count " + what, x.count(what), what < 0 ? -1 : want[what]);
        }
        check.due("count most", x.count(Integer.MAX_VALUE), -1);
        check.due("count least", x.count(Integer.MIN_VALUE), -1);
        check.finish();
    }
}
