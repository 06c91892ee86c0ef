/** The edges that 'Terms' IV and promises 20 to 25 name: a test for each sentence. */
public final class PlanEdgesTest {
    private static final int LEAST = Integer.MIN_VALUE;
    private static final int MOST = Integer.MAX_VALUE;
    private static final Check CHECK = new Check();

    public static void main(String[] args) {
        shiftRange();
        shiftRefused();
        shiftNeedsNoMore();
        shiftOfThoseTold();
        shiftOfColour();
        shiftWithoutBreaks();
        shiftWithoutState();
        greatestSum();
        fewestMinutes();
        mostOfTheLeastKind();
        shiftedAheadOfAny();
        shiftedLatest();
        shiftedRefused();
        costRange();
        costFirst();
        costRefused();
        wayRange();
        wayFirst();
        wayRefused();
        moveRange();
        moveRefused();
        moveFromWhereItStands();
        wayAheadOfAYear();
        eachWayByItself();
        firstOfLeastSums();
        greatestMove();
        movedAheadOfAny();
        movedLatest();
        movedRefused();
        CHECK.finish();
    }

    private static void due(String call, long got, long want) {
        CHECK.due(call, got, want);
    }

    private static GlassHut oneKind(int weight, int minutes, int price) {
        GlassHut x = new GlassHut();
        x.kind(2, weight, minutes, price, -1, 0, 1);
        return x;
    }

    /** Compares a row of all seven answers to shifted. */
    private static void shifted(GlassHut x, int... want) {
        for (int what = 0; what < 7; what++) {
            due("shifted(" + what + ")", x.shifted(what), want[what]);
        }
    }

    private static void shiftRange() {
        CHECK.sentence("A SHIFT: so many MINUTES (0 to 480) and so much GLASS (0 to 500) of a COLOUR");
        GlassHut x = oneKind(1, 1, 10);
        due("the least", x.shift(0, 0, 0), 0);
        shifted(x, 0, 0, 0, 0, 0, 0, 0);
        due("the greatest", x.shift(480, 500, 7), 4800);
        shifted(x, 0, 0, 480, 0, 0, 480, 480);
        due("one minute less", x.shift(479, 500, 7), 4790);
        due("one glass", x.shift(480, 1, 7), 10);
        due("one minute", x.shift(1, 500, 7), 10);
        due("no glass", x.shift(480, 0, 7), 0);
        due("no minutes", x.shift(0, 500, 7), 0);
        GlassHut y = oneKind(5, 1, 10);
        due("all 500 glass", y.shift(480, 500, 0), 1000);
        shifted(y, 0, 0, 100, 0, 0, 100, 500);
        due("499 glass", y.shift(480, 499, 0), 990);
        shifted(y, 0, 0, 99, 0, 0, 99, 495);
        GlassHut z = oneKind(50, 60, 10000);
        due("the heaviest and slowest", z.shift(480, 500, 0), 80000);
        shifted(z, 0, 0, 8, 0, 0, 480, 400);
    }

    private static void shiftRefused() {
        CHECK.sentence("shift: the sum of prices; NONE, and nothing happens, for others (COLOUR 0 to 7).");
        int[][] wrong = {{LEAST, 9, 1}, {-1, 9, 1}, {481, 9, 1}, {MOST, 9, 1}, {9, LEAST, 1}, {9, -1, 1},
            {9, 501, 1}, {9, MOST, 1}, {9, 9, LEAST}, {9, 9, -1}, {9, 9, 8}, {9, 9, MOST}};
        for (int[] n : wrong) {
            CHECK.refuses("shift(" + n[0] + ", " + n[1] + ", " + n[2] + ")", Probe::rich,
                    x -> x.shift(n[0], n[1], n[2]), -1);
        }
        CHECK.refuses("ahead of any", GlassHut::new, x -> x.shift(481, 0, 0), -1);
        GlassHut x = oneKind(1, 1, 10);
        for (int colour = 0; colour < 8; colour++) {
            due("colour " + colour, x.shift(1, 1, colour), 10);
        }
    }

    private static void shiftNeedsNoMore() {
        CHECK.sentence("that need no more MINUTES and GLASS");
        GlassHut x = oneKind(10, 20, 30);
        due("just enough for one", x.shift(20, 10, 0), 30);
        due("a minute short", x.shift(19, 500, 0), 0);
        due("a glass short", x.shift(480, 9, 0), 0);
        due("just enough for two", x.shift(40, 20, 0), 60);
        due("a minute short for two", x.shift(39, 20, 0), 30);
        due("a glass short for two", x.shift(40, 19, 0), 30);
        shifted(x, 0, 0, 1, 0, 0, 20, 10);
    }

    private static void shiftOfThoseTold() {
        CHECK.sentence("the numbers of each KIND (of those told");
        GlassHut x = new GlassHut();
        due("none is told", x.shift(480, 500, 0), 0);
        shifted(x, 0, 0, 0, 0, 0, 0, 0);
        for (int k = 0; k < 5; k++) {
            GlassHut y = new GlassHut();
            y.kind(k, 7, 11, 13, -1, 0, 1);
            due("kind " + k + " alone", y.shift(22, 14, 0), 26);
            due("of it", y.shifted(k), 2);
        }
        for (int k = 0; k < 5; k++) {
            x.kind(k, 1 + k, 7, 100 + 2 * k, -1, 0, 1);
        }
        due("all are told", x.shift(21, 9, 0), 312);
        shifted(x, 1, 0, 1, 0, 1, 21, 9);
    }

    private static void shiftOfColour() {
        CHECK.sentence("of that COLOUR or any");
        GlassHut x = new GlassHut();
        x.kind(0, 1, 1, 50, 0, 0, 1);
        x.kind(1, 1, 1, 40, 7, 0, 1);
        due("colour 0", x.shift(3, 3, 0), 150);
        due("colour 7", x.shift(3, 3, 7), 120);
        for (int colour = 1; colour < 7; colour++) {
            due("colour " + colour + " has none", x.shift(3, 3, colour), 0);
            shifted(x, 0, 0, 0, 0, 0, 0, 0);
        }
        x.kind(2, 1, 1, 45, -1, 0, 1);
        due("any is less", x.shift(3, 3, 0), 150);
        due("any is more", x.shift(3, 3, 7), 135);
        shifted(x, 0, 0, 3, 0, 0, 3, 3);
        due("any alone", x.shift(3, 3, 4), 135);
    }

    private static void shiftWithoutBreaks() {
        CHECK.sentence("BREAKS left out of account");
        GlassHut x = new GlassHut();
        x.kind(0, 1, 1, 10, -1, 2, 1);
        x.kind(1, 1, 1, 9, -1, 0, 1);
        due("four of the one that breaks", x.shift(4, 4, 0), 40);
        shifted(x, 4, 0, 0, 0, 0, 4, 4);
    }

    private static void shiftWithoutState() {
        CHECK.sentence("A SHIFT changes nothing but the latest SHIFT, and asks neither for POTS nor for GANGS");
        GlassHut x = Probe.rich();
        String before = x.count(0) + " " + x.count(5) + " " + x.count(7) + " " + x.count(20) + " " + x.pot(0, 1);
        CHECK.due("shift", x.shift(480, 500, 2) > 0, true);
        String behind = x.count(0) + " " + x.count(5) + " " + x.count(7) + " " + x.count(20) + " " + x.pot(0, 1);
        CHECK.due("nothing else", before.equals(behind), true);
        due("twice alike", x.shift(480, 500, 2), x.shift(480, 500, 2));
    }

    private static void greatestSum() {
        CHECK.sentence("the greatest sum of prices");
        GlassHut x = new GlassHut();
        x.kind(0, 10, 10, 60, -1, 0, 1);
        x.kind(1, 15, 15, 95, -1, 0, 1);
        due("not the dearest first", x.shift(20, 20, 0), 120);
        shifted(x, 2, 0, 0, 0, 0, 20, 20);
        due("both", x.shift(25, 25, 0), 155);
        shifted(x, 1, 1, 0, 0, 0, 25, 25);
        GlassHut y = oneKind(1, 1, 10000);
        due("the greatest of all", y.shift(480, 500, 0), 4800000);
    }

    private static void fewestMinutes() {
        CHECK.sentence("of these the fewest MINUTES");
        GlassHut x = new GlassHut();
        x.kind(0, 1, 11, 100, -1, 0, 1);
        x.kind(1, 50, 10, 100, -1, 0, 1);
        due("equal sums", x.shift(22, 100, 0), 200);
        shifted(x, 0, 2, 0, 0, 0, 20, 100);
        due("one each, as glass is short", x.shift(22, 99, 0), 200);
        shifted(x, 1, 1, 0, 0, 0, 21, 51);
        GlassHut y = new GlassHut();
        y.kind(0, 1, 60, 1, -1, 0, 1);
        y.kind(1, 1, 1, 1, -1, 0, 1);
        due("glass binds", y.shift(480, 8, 0), 8);
        shifted(y, 0, 8, 0, 0, 0, 8, 8);
        CHECK.sentence("the greatest sum of prices ahead of the fewest MINUTES");
        y.kind(0, 1, 60, 2, -1, 0, 1);
        due("eight coins more for 472 minutes", y.shift(480, 8, 0), 16);
        shifted(y, 8, 0, 0, 0, 0, 480, 8);
        y.kind(1, 8, 1, 15, -1, 0, 1);
        due("one coin more for 479 minutes", y.shift(480, 8, 0), 16);
        shifted(y, 8, 0, 0, 0, 0, 480, 8);
        y.kind(1, 8, 1, 16, -1, 0, 1);
        due("no coin more for 479 minutes", y.shift(480, 8, 0), 16);
        shifted(y, 0, 1, 0, 0, 0, 1, 8);
    }

    private static void mostOfTheLeastKind() {
        CHECK.sentence("of these the most of the least KIND, then of the next one, and so on.");
        GlassHut x = new GlassHut();
        for (int k = 0; k < 5; k++) {
            x.kind(k, 10 - k, 10, 100, -1, 0, 1);
        }
        due("all of kind 0", x.shift(30, 30, 0), 300);
        shifted(x, 3, 0, 0, 0, 0, 30, 30);
        due("one glass short", x.shift(30, 29, 0), 300);
        shifted(x, 2, 1, 0, 0, 0, 30, 29);
        due("two short", x.shift(30, 28, 0), 300);
        shifted(x, 2, 0, 1, 0, 0, 30, 28);
        due("the least glass", x.shift(30, 18, 0), 300);
        shifted(x, 0, 0, 0, 0, 3, 30, 18);
        due("one more than that", x.shift(30, 19, 0), 300);
        shifted(x, 0, 0, 0, 1, 2, 30, 19);
        due("four more", x.shift(30, 22, 0), 300);
        shifted(x, 1, 0, 0, 0, 2, 30, 22);
    }

    private static void shiftedAheadOfAny() {
        CHECK.sentence("shifted: NONE ahead of any");
        GlassHut x = oneKind(1, 1, 1);
        shifted(x, -1, -1, -1, -1, -1, -1, -1);
        x.shift(-1, 5, 0);
        shifted(x, -1, -1, -1, -1, -1, -1, -1);
        x.shift(0, 0, 0);
        shifted(x, 0, 0, 0, 0, 0, 0, 0);
    }

    private static void shiftedLatest() {
        CHECK.sentence("How many of a KIND in the latest SHIFT; what 5: MINUTES, 6: GLASS");
        GlassHut x = oneKind(3, 4, 5);
        x.shift(9, 9, 0);
        shifted(x, 0, 0, 2, 0, 0, 8, 6);
        x.kind(2, 50, 60, 1, 7, 0, 1);
        shifted(x, 0, 0, 2, 0, 0, 8, 6);
        x.shift(9, 501, 0);
        shifted(x, 0, 0, 2, 0, 0, 8, 6);
        x.shift(9, 9, 0);
        shifted(x, 0, 0, 0, 0, 0, 0, 0);
    }

    private static void shiftedRefused() {
        CHECK.sentence("shifted: NONE .. for another what.");
        GlassHut x = oneKind(1, 1, 1);
        x.shift(9, 9, 0);
        for (int what : new int[] {LEAST, -1, 7, 8, MOST}) {
            due("what " + what, x.shifted(what), -1);
        }
    }

    private static void costRange() {
        CHECK.sentence("costs of SITES by YEARS (0 to 100000");
        GlassHut x = new GlassHut();
        for (int site = 0; site < 5; site++) {
            for (int year = 0; year < 10; year++) {
                due("cost of " + site + ", " + year, x.cost(site, year, 100000 - 10 * site - year), 0);
            }
        }
        for (int site = 0; site < 5; site++) {
            for (int year = 0; year < 10; year++) {
                due("what it was", x.cost(site, year, 0), 100000 - 10 * site - year);
            }
        }
        due("the least", x.cost(4, 9, 1), 0);
    }

    private static void costFirst() {
        CHECK.sentence("costs .. 0 at first");
        due("move", new GlassHut().move(10), 0);
        due("the last of all", new GlassHut().cost(4, 9, 5), 0);
    }

    private static void costRefused() {
        CHECK.sentence("The cost of a SITE in a YEAR: what it was; NONE, and nothing happens, for others.");
        int[][] wrong = {{LEAST, 2, 5}, {-1, 2, 5}, {5, 2, 5}, {MOST, 2, 5}, {1, LEAST, 5}, {1, -1, 5}, {1, 10, 5},
            {1, MOST, 5}, {1, 2, LEAST}, {1, 2, -1}, {1, 2, 100001}, {1, 2, MOST}};
        for (int[] n : wrong) {
            CHECK.refuses("cost(" + n[0] + ", " + n[1] + ", " + n[2] + ")", Probe::rich,
                    x -> x.cost(n[0], n[1], n[2]), -1);
        }
    }

    private static void wayRange() {
        CHECK.sentence("and of ways from SITE to SITE (0 to 100000");
        GlassHut x = new GlassHut();
        for (int from = 0; from < 5; from++) {
            for (int to = 0; to < 5; to++) {
                due("way", x.way(from, to, 100000 - 5 * from - to), from == to ? -1 : 0);
            }
        }
        for (int from = 0; from < 5; from++) {
            for (int to = 0; to < 5; to++) {
                due("what it was", x.way(from, to, 0), from == to ? -1 : 100000 - 5 * from - to);
            }
        }
    }

    private static void wayFirst() {
        CHECK.sentence("ways .. 0 at first");
        GlassHut x = new GlassHut();
        x.cost(0, 0, 1);
        due("move to another site", x.move(1), 0);
        due("site", x.moved(0), 1);
    }

    private static void wayRefused() {
        CHECK.sentence("The cost of the way from a SITE to another one likewise (both one: NONE).");
        int[][] wrong = {{LEAST, 2, 5}, {-1, 2, 5}, {5, 2, 5}, {MOST, 2, 5}, {1, LEAST, 5}, {1, -1, 5}, {1, 5, 5},
            {1, MOST, 5}, {1, 2, LEAST}, {1, 2, -1}, {1, 2, 100001}, {1, 2, MOST}, {0, 0, 5}, {1, 1, 0}, {2, 2, 5},
            {3, 3, 100000}, {4, 4, 5}};
        for (int[] n : wrong) {
            CHECK.refuses("way(" + n[0] + ", " + n[1] + ", " + n[2] + ")", Probe::rich,
                    x -> x.way(n[0], n[1], n[2]), -1);
        }
        CHECK.sentence("(both one: NONE): one stays without a way");
        GlassHut x = new GlassHut();
        for (int site = 0; site < 5; site++) {
            for (int to = 0; to < 5; to++) {
                x.way(site, to, 9);
            }
        }
        due("move", x.move(10), 0);
    }

    private static void moveRange() {
        CHECK.sentence("The best MOVE for so many YEARS (1 to 10): the least sum");
        for (int years = 1; years <= 10; years++) {
            GlassHut x = new GlassHut();
            for (int site = 0; site < 5; site++) {
                for (int year = 0; year < 10; year++) {
                    x.cost(site, year, 1 << year);
                }
            }
            due("move(" + years + ")", x.move(years), (1 << years) - 1);
            for (int year = 0; year < 10; year++) {
                due("moved(" + year + ") of " + years, x.moved(year), year < years ? 0 : -1);
            }
        }
    }

    private static void moveRefused() {
        CHECK.sentence("move: NONE, and nothing happens, for others.");
        for (int years : new int[] {LEAST, -1, 0, 11, MOST}) {
            CHECK.refuses("move(" + years + ")", Probe::rich, x -> x.move(years), -1);
        }
    }

    private static void moveFromWhereItStands() {
        CHECK.sentence("for YEARS 0 to n - 1 a SITE each, at first that where the hut stands");
        for (int stands = 0; stands < 5; stands++) {
            GlassHut x = new GlassHut();
            x.go(stands);
            for (int from = 0; from < 5; from++) {
                for (int to = 0; to < 5; to++) {
                    x.way(from, to, 1);
                }
            }
            due("it stays", x.move(3), 0);
            for (int year = 0; year < 3; year++) {
                due("on " + stands, x.moved(year), stands);
            }
            due("a move moves no hut", x.count(3), stands);
        }
    }

    private static void wayAheadOfAYear() {
        CHECK.sentence("a way is paid in the YEAR ahead of which one goes; also ahead of the first");
        GlassHut x = new GlassHut();
        for (int year = 0; year < 10; year++) {
            x.cost(0, year, 10);
        }
        for (int to = 1; to < 5; to++) {
            x.way(0, to, 15);
        }
        due("stay for one year", x.move(1), 10);
        due("on site 0", x.moved(0), 0);
        due("go ahead of the first of two", x.move(2), 15);
        due("on site 1", x.moved(0), 1);
        x.way(0, 1, 9);
        due("go for one year", x.move(1), 9);
        x.way(0, 1, 10);
        due("either: the least site", x.move(1), 10);
        due("site 0", x.moved(0), 0);
        x.cost(0, 0, 0);
        x.cost(1, 0, 100);
        due("go ahead of the second year", x.move(3), 10);
        due("first", x.moved(0), 0);
        due("second", x.moved(1), 1);
        due("third", x.moved(2), 1);
    }

    private static void eachWayByItself() {
        CHECK.sentence("each way by itself");
        GlassHut x = new GlassHut();
        for (int from = 0; from < 5; from++) {
            for (int to = 0; to < 5; to++) {
                x.way(from, to, 100);
            }
        }
        x.way(0, 1, 1);
        x.way(1, 0, 50);
        x.cost(0, 0, 60);
        x.cost(1, 1, 60);
        due("there and back", x.move(2), 51);
        due("there", x.moved(0), 1);
        due("back", x.moved(1), 0);
        CHECK.sentence("each way by itself: a way over another SITE is no way of one YEAR");
        x.way(0, 3, 1);
        x.way(3, 4, 1);
        for (int site = 0; site < 4; site++) {
            x.cost(site, 0, 90);
        }
        due("to site 4 at once", x.move(1), 90);
        due("it stays", x.moved(0), 0);
    }

    private static void firstOfLeastSums() {
        CHECK.sentence("the least sum; of these the first: YEAR 0 on the least SITE, and so on.");
        GlassHut x = new GlassHut();
        x.go(3);
        due("all cost nothing", x.move(10), 0);
        for (int year = 0; year < 10; year++) {
            due("year " + year, x.moved(year), 0);
        }
        x.cost(0, 1, 1);
        x.cost(1, 1, 1);
        x.cost(0, 2, 1);
        x.move(4);
        int[] want = {0, 2, 1, 0};
        for (int year = 0; year < 4; year++) {
            due("the least site of year " + year, x.moved(year), want[year]);
        }
        GlassHut y = new GlassHut();
        y.go(4);
        y.way(4, 0, 1);
        y.way(4, 1, 1);
        y.way(4, 2, 1);
        y.way(4, 3, 1);
        y.cost(4, 0, 1);
        due("go now or pay for it", y.move(1), 1);
        due("the least site, though one could stay", y.moved(0), 0);
    }

    private static void greatestMove() {
        CHECK.sentence("costs and ways (0 to 100000): the greatest sum");
        GlassHut x = new GlassHut();
        for (int from = 0; from < 5; from++) {
            for (int year = 0; year < 10; year++) {
                x.cost(from, year, 100000);
            }
            for (int to = 0; to < 5; to++) {
                x.way(from, to, 100000);
            }
        }
        due("ten years", x.move(10), 1000000);
        for (int year = 0; year < 10; year++) {
            x.cost(0, year, year % 2 == 0 ? 100000 : 0);
            x.cost(1, year, year % 2 == 0 ? 0 : 100000);
        }
        due("stay on either", x.move(10), 500000);
        for (int year = 0; year < 10; year++) {
            due("year " + year, x.moved(year), 0);
        }
    }

    private static void movedAheadOfAny() {
        CHECK.sentence("moved: NONE ahead of any MOVE");
        GlassHut x = new GlassHut();
        x.move(0);
        x.move(11);
        for (int year = -1; year <= 10; year++) {
            due("moved(" + year + ")", x.moved(year), -1);
        }
    }

    private static void movedLatest() {
        CHECK.sentence("The SITE of a YEAR in the latest MOVE");
        GlassHut x = new GlassHut();
        x.cost(0, 0, 1);
        x.move(10);
        due("year 0", x.moved(0), 1);
        x.cost(1, 0, 1);
        due("a cost told anew changes no latest one", x.moved(0), 1);
        x.move(11);
        due("a refused one neither", x.moved(9), 0);
        x.move(2);
        due("year 0 then", x.moved(0), 2);
        due("year 1", x.moved(1), 0);
        due("year 2 is none of it", x.moved(2), -1);
        due("year 9 is none of it", x.moved(9), -1);
    }

    private static void movedRefused() {
        CHECK.sentence("moved: .. NONE.");
        GlassHut x = new GlassHut();
        x.move(10);
        for (int year : new int[] {LEAST, -1, 10, 11, MOST}) {
            due("moved(" + year + ")", x.moved(year), -1);
        }
        due("the last year", x.moved(9), 0);
    }
}
