/** The hours at which a year or the whole time ends: a test for each sentence that names them. */
public final class EndEdgesTest {
    private static final Check CHECK = new Check();

    public static void main(String[] args) {
        everyYearBegins();
        yearOfAllSites();
        yearWithinOnePass();
        rightOfEachYear();
        lastHourWorks();
        lastHourGoes();
        nowAtTheEnd();
        passAtTheEnd();
        cutAtTheEnd();
        goAtTheEnd();
        layAtTheEnd();
        blowAtTheEnd();
        askedAtTheEnd();
        othersAtTheEnd();
        CHECK.finish();
    }

    private static void due(String call, long got, long want) {
        CHECK.due(call, got, want);
    }

    private static void everyYearBegins() {
        CHECK.sentence("A YEAR has 500 HOURS (0 to 9) .. as a YEAR begins nothing has been cut in it.");
        GlassHut x = new GlassHut();
        x.right(0, 3);
        for (int year = 0; year < 10; year++) {
            due("nothing is cut as year " + year + " begins", x.count(4), 0);
            due("cut in year " + year, x.cut(2), 2);
            x.pass(499);
            due("hour", x.count(0), 500 * year + 499);
            due("cut in the last hour of year " + year, x.count(4), 2);
            due("what is left of year " + year, x.cut(2), 1);
            x.pass(1);
        }
    }

    private static void yearOfAllSites() {
        CHECK.sentence("as a YEAR begins nothing has been cut in it: on no SITE");
        GlassHut x = new GlassHut();
        for (int site = 4; site >= 0; site--) {
            x.go(site);
            x.right(site, 10);
            due("cut on " + site, x.cut(10), 10);
            due("cut on " + site + " again", x.cut(1), 0);
        }
        x.pass(499);
        for (int site = 1; site < 6; site++) {
            x.go(site % 5);
            due("cut at hour 499 on " + site % 5, x.count(4), 10);
        }
        x.pass(1);
        for (int site = 1; site < 6; site++) {
            x.go(site % 5);
            due("cut at hour 500 on " + site % 5, x.count(4), 0);
            due("cut on it", x.cut(10), 10);
        }
    }

    private static void yearWithinOnePass() {
        CHECK.sentence("as a YEAR begins, within a pass of many HOURS");
        GlassHut x = new GlassHut();
        x.right(0, 10);
        x.pass(250);
        x.cut(10);
        x.pass(500);
        due("hour", x.count(0), 750);
        due("cut", x.count(4), 0);
        x.cut(7);
        x.pass(249);
        due("cut at hour 999", x.count(4), 7);
        x.pass(2);
        due("cut at hour 1001", x.count(4), 0);
    }

    private static void rightOfEachYear() {
        CHECK.sentence("measures of wood that may be cut there in a YEAR: the RIGHT stays, what is left of it does not");
        GlassHut x = new GlassHut();
        x.right(0, 10);
        x.cut(4);
        x.pass(500);
        due("not 16 but 10", x.cut(10000), 10);
        x.pass(500);
        due("right", x.right(0, 10), 10);
        due("10 again", x.cut(10000), 10);
        due("stack", x.count(2), 24);
    }

    private static void lastHourWorks() {
        CHECK.sentence("HOURS 0 to 4999: all is done in the last one too");
        GlassHut x = Probe.lastHour();
        due("hour", x.count(0), 4999);
        due("cut", x.cut(1000), 1000);
        due("lay", x.lay(1, 1, 200, 0), 1);
        due("blow", x.blow(0, 0, 0), 0);
        due("its hour", x.piece(1, 3), 4999);
        due("pass", x.pass(1), 2000);
        due("now", x.count(0), 5000);
        due("done in the last hour", x.pot(1, 2), 3);
        due("cooled in the last hour", x.piece(1, 6), 1);
        due("burnt in the last hour", x.count(2), 1000);
    }

    private static void lastHourGoes() {
        CHECK.sentence("HOURS 0 to 4999: the hut goes in the last one too");
        GlassHut x = new GlassHut();
        for (int k = 0; k < 9; k++) {
            x.pass(500);
        }
        x.pass(499);
        CHECK.due("go", x.go(1), true);
        due("pass", x.pass(1), 0);
        CHECK.due("go back", x.go(0), false);
        due("site", x.count(3), 1);
    }

    private static void nowAtTheEnd() {
        CHECK.sentence("NOW is the HOUR that is next (5000 at the end");
        GlassHut x = new GlassHut();
        for (int k = 1; k <= 10; k++) {
            due("pass", x.pass(500), 0);
            due("now", x.count(0), 500 * k);
        }
        due("minutes at the end", x.count(20), 60);
    }

    private static void passAtTheEnd() {
        CHECK.sentence("pass: NONE, and nothing happens, .. beyond 5000.");
        for (int hours : new int[] {0, 1, 2, 500, Integer.MAX_VALUE}) {
            CHECK.refuses("pass(" + hours + ")", Probe::ended, x -> x.pass(hours), -1);
        }
    }

    private static void cutAtTheEnd() {
        CHECK.sentence("cut: NONE, and nothing happens, .. or at the end.");
        for (int measures : new int[] {0, 1, 10000}) {
            CHECK.refuses("cut(" + measures + ")", Probe::endedEmpty, x -> x.cut(measures), -1);
        }
        CHECK.refuses("cut(1)", Probe::ended, x -> x.cut(1), -1);
    }

    private static void goAtTheEnd() {
        CHECK.sentence("go: false, and nothing happens: .. or the end.");
        for (int site = 0; site < 5; site++) {
            int to = site;
            CHECK.refuses("go(" + to + ")", Probe::endedEmpty, x -> x.go(to), false);
        }
    }

    private static void layAtTheEnd() {
        CHECK.sentence("lay: NONE, and nothing happens: .. or the end.");
        CHECK.refuses("lay", Probe::endedEmpty, x -> x.lay(0, 1, 0, 0), -1);
        CHECK.refuses("lay beside a batch", Probe::ended, x -> x.lay(5, 200, 200, 0), -1);
    }

    private static void blowAtTheEnd() {
        CHECK.sentence("1 no such GANG, POT, or KIND told, the end");
        GlassHut y = Probe.ended();
        due("the batch is ready", y.pot(0, 4), 1);
        due("the heat is great", y.count(1), 2000);
        due("glass is left", y.pot(0, 1), 96);
        CHECK.refuses("blow", Probe::ended, x -> x.blow(0, 0, 0), 1);
        CHECK.refuses("blow from an empty pot", Probe::ended, x -> x.blow(0, 0, 1), 1);
    }

    private static void askedAtTheEnd() {
        CHECK.sentence("What is asked for is answered at the end too");
        GlassHut x = Probe.ended();
        due("pot", x.pot(0, 0), 0);
        due("piece", x.piece(0, 3), 4998);
        due("hours it has cooled", x.piece(0, 6), 2);
        due("pay", x.pay(0), 0);
        due("in bay 0", x.count(10), 1);
        due("shift", x.shift(12, 10, 0), 300);
        due("move", x.move(10), 0);
        due("cut in a year that is over", x.count(4), 0);
    }

    private static void othersAtTheEnd() {
        CHECK.sentence("A promise that does not name the end holds at the end too");
        GlassHut x = Probe.ended();
        due("right", x.right(0, 1), 10000);
        due("rate", x.rate(1), 18);
        due("cold", x.cold(0, 4999, 1), 1);
        due("feed", x.feed(0x61203120, 0x32202020, 0x20202020, 0x20202020, 0x20202020), 20);
        due("end", x.end(19), 19);
        due("spans", x.spans(), 1);
        due("buy", x.buy(10), 10);
        due("drop", x.drop(0), 96);
        due("open", x.open(0), 1);
        due("heap", x.count(5), 111);
        CHECK.due("kind", x.kind(4, 1, 1, 1, -1, 0, 1), true);
        due("cost", x.cost(0, 0, 1), 0);
        due("way", x.way(0, 1, 1), 0);
    }
}
