import java.util.Random;

/** Promises 22 to 25: cost, way, move, moved, against a search through all rows of sites. */
public final class MoveTest {
    private static final Check CHECK = new Check();

    public static void main(String[] args) {
        costs();
        ways();
        edges();
        aheadOfTheFirst();
        firstOfEquals();
        greatest();
        againstSearch();
        CHECK.finish();
    }

    private static void due(String call, long got, long want) {
        CHECK.due(call, got, want);
    }

    private static void costs() {
        GlassHut x = new GlassHut();
        due("cost", x.cost(4, 9, 100000), 0);
        due("cost again", x.cost(4, 9, 3), 100000);
        due("another year", x.cost(4, 8, 5), 0);
        due("another site", x.cost(3, 9, 6), 0);
        due("site -1", x.cost(-1, 0, 1), -1);
        due("site 5", x.cost(5, 0, 1), -1);
        due("year -1", x.cost(0, -1, 1), -1);
        due("year 10", x.cost(0, 10, 1), -1);
        due("coins -1", x.cost(4, 9, -1), -1);
        due("coins 100001", x.cost(4, 9, 100001), -1);
        due("cost after refusals", x.cost(4, 9, 0), 3);
    }

    private static void ways() {
        GlassHut x = new GlassHut();
        due("way", x.way(4, 0, 100000), 0);
        due("way again", x.way(4, 0, 3), 100000);
        due("the other way", x.way(0, 4, 5), 0);
        due("both one", x.way(2, 2, 5), -1);
        due("from -1", x.way(-1, 0, 1), -1);
        due("from 5", x.way(5, 0, 1), -1);
        due("to -1", x.way(0, -1, 1), -1);
        due("to 5", x.way(0, 5, 1), -1);
        due("coins -1", x.way(4, 0, -1), -1);
        due("coins 100001", x.way(4, 0, 100001), -1);
        due("way after refusals", x.way(4, 0, 0), 3);
    }

    private static void edges() {
        GlassHut x = new GlassHut();
        due("moved ahead of any", x.moved(0), -1);
        due("move 0", x.move(0), -1);
        due("move 11", x.move(11), -1);
        due("moved still", x.moved(0), -1);
        due("move 3", x.move(3), 0);
        due("moved 2", x.moved(2), 0);
        due("moved 3", x.moved(3), -1);
        due("moved -1", x.moved(-1), -1);
        x.cost(0, 0, 9);
        due("a refused move", x.move(-5), -1);
        due("keeps the latest", x.moved(0), 0);
        due("move 10", x.move(10), 0);
        due("moved 0", x.moved(0), 1);
        due("moved 9", x.moved(9), 0);
        due("moved 10", x.moved(10), -1);
        due("move 1", x.move(1), 0);
        due("moved 1 of one year", x.moved(1), -1);
    }

    private static void aheadOfTheFirst() {
        GlassHut x = new GlassHut();
        x.go(2);
        for (int site = 0; site < 5; site++) {
            x.way(2, site, 10);
            x.cost(site, 0, site == 2 ? 9 : 0);
        }
        due("stay for 9", x.move(1), 9);
        due("on site 2", x.moved(0), 2);
        x.cost(2, 0, 10);
        due("go for 10", x.move(1), 10);
        due("on site 0", x.moved(0), 0);
        x.go(0);
        due("from site 0", x.move(1), 0);
        due("it stays there", x.moved(0), 0);
    }

    private static void firstOfEquals() {
        GlassHut x = new GlassHut();
        x.go(4);
        due("all is 0", x.move(10), 0);
        for (int year = 0; year < 10; year++) {
            due("moved " + year, x.moved(year), 0);
        }
    }

    private static void greatest() {
        GlassHut x = new GlassHut();
        for (int from = 0; from < 5; from++) {
            for (int year = 0; year < 10; year++) {
                x.cost(from, year, (from + year) % 2 == 0 ? 100000 : 99999);
            }
            for (int to = 0; to < 5; to++) {
                x.way(from, to, 100000);
            }
        }
        due("the greatest sum", x.move(10), 5 * 100000 + 5 * 99999);
        for (int year = 0; year < 10; year++) {
            due("moved " + year, x.moved(year), 0);
        }
    }

    private static void againstSearch() {
        Random dice = new Random(11);
        for (int round = 0; round < 300; round++) {
            GlassHut x = new GlassHut();
            int most = round % 3 == 0 ? 3 : round % 3 == 1 ? 20 : 100001;
            int start = dice.nextInt(5);
            x.go(start);
            int[][] costs = new int[5][10];
            int[][] ways = new int[5][5];
            for (int site = 0; site < 5; site++) {
                for (int year = 0; year < 10; year++) {
                    costs[site][year] = dice.nextInt(most);
                    x.cost(site, year, costs[site][year]);
                }
                for (int to = 0; to < 5; to++) {
                    if (to != site) {
                        ways[site][to] = dice.nextInt(most);
                        x.way(site, to, ways[site][to]);
                    }
                }
            }
            int years = 1 + dice.nextInt(6);
            int[] best = new int[years];
            int sum = search(costs, ways, start, 0, years, best);
            due("move", x.move(years), sum);
            for (int year = 0; year < years; year++) {
                due("moved " + year, x.moved(year), best[year]);
            }
        }
    }

    private static int search(int[][] costs, int[][] ways, int from, int year, int years, int[] best) {
        int least = Integer.MAX_VALUE;
        int[] row = new int[best.length];
        for (int to = 0; year < years && to < 5; to++) {
            row[year] = to;
            int sum = ways[from][to] + costs[to][year] + search(costs, ways, to, year + 1, years, row);
            if (sum < least) {
                least = sum;
                System.arraycopy(row, year, best, year, years - year);
            }
        }
        return year < years ? least : 0;
    }
}
