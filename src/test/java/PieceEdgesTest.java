import java.util.function.Supplier;

/** The edges that 'Terms' III and promises 13 to 15, 18 and 19 name: a test for each sentence. */
public final class PieceEdgesTest {
    private static final int LEAST = Integer.MIN_VALUE;
    private static final int MOST = Integer.MAX_VALUE;
    private static final Check CHECK = new Check();

    public static void main(String[] args) {
        kindsRange();
        kindRefused();
        toldAnew();
        breaksEachNth();
        breaksToldAnew();
        gangsMinutes();
        reasonOne();
        reasonTwo();
        reasonThree();
        reasonFour();
        reasonFive();
        reasonSix();
        reasonSeven();
        leastReason();
        glassAndMinutesGo();
        nextOfItsKind();
        brokenOnTheHeap();
        firstBayWithRoom();
        batchWithoutGlass();
        sevenThoughItBreaks();
        roomForTwenty();
        cooledOneHourMore();
        storedAtLast();
        opened();
        openRefused();
        thousandPieces();
        payDownwards();
        payOfStored();
        payAsItIsNow();
        payRefused();
        pieceAnswers();
        pieceRefused();
        CHECK.finish();
    }

    private static void due(String call, long got, long want) {
        CHECK.due(call, got, want);
    }

    /** A hot hut at hour 8 with ready batches of 101 glass and colour 1 in all pots but the last. */
    private static GlassHut ready() {
        GlassHut x = Check.hot();
        Check.spans(x, "a 0 50;b 99 99");
        for (int k = 0; k < 5; k++) {
            x.lay(k, 1, 200, 0);
        }
        x.pass(4);
        return x;
    }

    private static GlassHut readyWith(int weight, int minutes, int colour, int breaks, int cooling) {
        GlassHut x = ready();
        x.kind(0, weight, minutes, 100, colour, breaks, cooling);
        return x;
    }

    private static void blows(GlassHut x, int many) {
        for (int k = 0; k < many; k++) {
            due("blow " + k, x.blow(k / 60, 0, k / 60), 0);
        }
    }

    private static void kindsRange() {
        CHECK.sentence("KINDS 0 to 4 .. weight (1 to 50), MINUTES (1 to 60), price (1 to 10000), COLOUR (NONE: any), "
                + "BREAKS (0, or n from 2 to 50 ..), cooling HOURS (1 to 40).");
        int[] least = {0, 1, 1, 1, -1, 0, 1};
        int[] most = {4, 50, 60, 10000, 7, 50, 40};
        for (int at = 0; at < 7; at++) {
            int[] n = {2, 25, 30, 5000, 3, 25, 20};
            for (int edge : new int[] {least[at], least[at] + (at == 5 ? 2 : 1), most[at] - 1, most[at]}) {
                n[at] = edge;
                GlassHut x = new GlassHut();
                CHECK.due("number " + at + " is " + edge, tell(x, n), true);
                int colour = n[4] == -1 ? 0 : n[4];
                due("one piece of it", x.shift(n[2], n[1], colour), n[3]);
                due("how many of it", x.shifted(n[0]), 1);
            }
        }
        GlassHut x = new GlassHut();
        CHECK.due("all the least", tell(x, least), true);
        CHECK.due("all the greatest", tell(x, most), true);
    }

    private static boolean tell(GlassHut x, int[] n) {
        return x.kind(n[0], n[1], n[2], n[3], n[4], n[5], n[6]);
    }

    private static void kindRefused() {
        CHECK.sentence("A KIND is told (anew): true; false, and nothing happens, for others (COLOUR NONE to 7).");
        int[][] wrong = {{LEAST, -1, 5, MOST}, {LEAST, -1, 0, 51, MOST}, {LEAST, -1, 0, 61, MOST},
            {LEAST, -1, 0, 10001, MOST}, {LEAST, -2, 8, MOST}, {LEAST, -1, 1, 51, MOST}, {LEAST, -1, 0, 41, MOST}};
        for (int at = 0; at < 7; at++) {
            for (int told : wrong[at]) {
                int[] n = {1, 9, 9, 9, 1, 9, 9};
                n[at] = told;
                CHECK.refuses("kind with number " + at + " of " + told, Probe::rich, x -> tell(x, n), false);
            }
        }
        CHECK.refuses("a kind not told yet", Probe::rich, x -> x.kind(4, 0, 1, 1, -1, 0, 1), false);
    }

    private static void toldAnew() {
        CHECK.sentence("A KIND may be told anew (how many were blown stays; PIECES keep weight and cooling HOURS as "
                + "they were blown).");
        GlassHut x = readyWith(4, 1, -1, 0, 3);
        blows(x, 2);
        CHECK.due("told anew", x.kind(0, 50, 60, 1, 7, 50, 1), true);
        due("blown stays", x.count(30), 2);
        x.pass(1);
        due("cooled one hour", x.piece(0, 4), 0);
        x.pass(1);
        due("cooled two hours", x.piece(0, 4), 0);
        due("open", x.open(0), 2);
        due("heap by the weight of then", x.count(5), 8);
        GlassHut y = readyWith(4, 1, -1, 0, 3);
        blows(y, 1);
        y.kind(0, 4, 1, 1, -1, 0, 40);
        y.pass(3);
        due("stored by the hours of then", y.piece(0, 4), 1);
    }

    private static void breaksEachNth() {
        CHECK.sentence("BREAKS (0, or n from 2 to 50: each n-th of this KIND that is blown breaks)");
        for (int n : new int[] {2, 3, 50}) {
            GlassHut x = readyWith(1, 1, -1, n, 1);
            for (int k = 1; k <= 101; k++) {
                if (k % 50 == 1) {
                    x.pass(1);
                }
                due("blow " + k, x.blow(0, 0, k / 52), 0);
                due("piece " + k + " of breaks " + n, x.piece(k - 1, 4), k % n == 0 ? 2 : 0);
            }
        }
        GlassHut y = readyWith(1, 1, -1, 0, 1);
        for (int k = 0; k < 60; k++) {
            y.blow(0, 0, 0);
            due("none breaks", y.piece(k, 4), 0);
        }
    }

    private static void breaksToldAnew() {
        CHECK.sentence("each n-th of this KIND: the others and the told number do not count anew");
        GlassHut x = readyWith(1, 1, -1, 3, 1);
        x.kind(1, 1, 1, 1, -1, 2, 1);
        x.blow(0, 0, 0);
        x.blow(0, 1, 0);
        x.blow(0, 0, 0);
        due("the first of kind 1", x.piece(1, 4), 0);
        due("the second of kind 0", x.piece(2, 4), 0);
        x.kind(0, 1, 1, 1, -1, 3, 1);
        x.blow(0, 0, 0);
        due("the third of kind 0", x.piece(3, 4), 2);
        x.kind(0, 1, 1, 1, -1, 4, 1);
        x.blow(0, 0, 0);
        due("the fourth by a new number", x.piece(4, 4), 2);
        x.blow(0, 1, 0);
        due("the second of kind 1", x.piece(5, 4), 2);
        due("a refused blow is none", x.blow(0, 0, 5), 2);
        due("blown", x.count(30), 4);
    }

    private static void gangsMinutes() {
        CHECK.sentence("GANGS 0 to 3 with 60 MINUTES an HOUR each.");
        GlassHut x = readyWith(1, 60, -1, 0, 1);
        x.kind(1, 1, 1, 1, -1, 0, 1);
        x.kind(2, 1, 59, 1, -1, 0, 1);
        due("all 60", x.blow(0, 0, 0), 0);
        due("none is left", x.count(20), 0);
        due("one more", x.blow(0, 1, 0), 6);
        due("59", x.blow(3, 2, 0), 0);
        due("one is left", x.count(23), 1);
        due("60 of one", x.blow(3, 0, 0), 6);
        due("one of one", x.blow(3, 1, 0), 0);
        due("none of gang 3", x.count(23), 0);
        due("gang 1 has its own", x.count(21), 60);
        due("gang 2 has its own", x.count(22), 60);
        due("gang 4", x.blow(4, 1, 0), 1);
        due("gang -1", x.blow(-1, 1, 0), 1);
    }

    private static void reasonRefused(String call, Supplier<GlassHut> state, int gang, int kind, int pot, int want) {
        CHECK.refuses("blow with " + call, state, x -> x.blow(gang, kind, pot), want);
    }

    private static void reasonOne() {
        CHECK.sentence("1 no such GANG, POT, or KIND told, the end");
        Supplier<GlassHut> state = () -> readyWith(5, 5, -1, 0, 5);
        for (int none : new int[] {LEAST, -1, MOST}) {
            reasonRefused("gang " + none, state, none, 0, 0, 1);
            reasonRefused("kind " + none, state, 0, none, 0, 1);
            reasonRefused("pot " + none, state, 0, 0, none, 1);
        }
        reasonRefused("gang 4", state, 4, 0, 0, 1);
        reasonRefused("kind 5", state, 0, 5, 0, 1);
        reasonRefused("pot 6", state, 0, 0, 6, 1);
        for (int k = 1; k < 5; k++) {
            reasonRefused("kind " + k + ", not told", state, 0, k, 0, 1);
        }
        reasonRefused("the end", Probe::ended, 0, 0, 0, 1);
        GlassHut x = state.get();
        due("the greatest of gangs and pots", x.blow(3, 0, 4), 0);
    }

    private static void reasonTwo() {
        CHECK.sentence("2 the POT is EMPTY, or not READY");
        reasonRefused("an empty pot", () -> readyWith(5, 5, -1, 0, 5), 0, 0, 5, 2);
        reasonRefused("a batch laid in now", PieceEdgesTest::notReady, 0, 0, 5, 2);
        GlassHut x = notReady();
        for (int k = 0; k < 19; k++) {
            due("not ready at " + x.pot(5, 2), x.blow(0, 0, 5), 2);
            x.pass(1);
        }
        due("done", x.pot(5, 2), 57);
        due("just not ready", x.blow(0, 0, 5), 2);
        x.pass(1);
        due("done is need", x.pot(5, 2), x.pot(5, 3));
        due("just ready", x.blow(0, 0, 5), 0);
    }

    private static GlassHut notReady() {
        GlassHut x = readyWith(5, 5, -1, 0, 5);
        x.lay(5, 200, 0, 0);
        return x;
    }

    /** Lets the next hour have a heat, from 100 on; the hut has 2000 now. */
    private static GlassHut heatOf(GlassHut x, int heat) {
        int now = x.count(0);
        int down = 1900 - heat;
        for (; down > 100; down -= 100) {
            x.cold(now, now, 100);
        }
        x.cold(now, now, down);
        x.rate(0);
        due("heat", x.pass(1), heat);
        return x;
    }

    private static void reasonThree() {
        CHECK.sentence("3 HEAT below 900");
        due("heat 900", heatOf(readyWith(5, 5, -1, 0, 5), 900).blow(0, 0, 0), 0);
        due("heat 901", heatOf(readyWith(5, 5, -1, 0, 5), 901).blow(0, 0, 0), 0);
        reasonRefused("heat 899", () -> heatOf(readyWith(5, 5, -1, 0, 5), 899), 0, 0, 0, 3);
        reasonRefused("heat 100", () -> heatOf(readyWith(5, 5, -1, 0, 5), 100), 0, 0, 0, 3);
    }

    private static void reasonFour() {
        CHECK.sentence("4 another COLOUR");
        for (int colour = 0; colour < 8; colour++) {
            int told = colour;
            if (colour == 1) {
                due("its colour", readyWith(5, 5, 1, 0, 5).blow(0, 0, 0), 0);
            } else {
                reasonRefused("colour " + colour, () -> readyWith(5, 5, told, 0, 5), 0, 0, 0, 4);
            }
        }
        CHECK.sentence("COLOUR (NONE: any)");
        due("any colour", readyWith(5, 5, -1, 0, 5).blow(0, 0, 0), 0);
        due("any, of a batch without one", colourless(-1).blow(0, 0, 0), 0);
        for (int colour : new int[] {0, 7}) {
            reasonRefused("colour " + colour + " of a batch without one", () -> colourless(colour), 0, 0, 0, 4);
        }
    }

    private static GlassHut colourless(int colour) {
        GlassHut x = Check.hot();
        x.lay(0, 1, 200, 0);
        x.pass(4);
        x.kind(0, 1, 1, 1, colour, 0, 1);
        return x;
    }

    /** A ready hut whose pot 0 has from 1 to 51 glass left, and whose bays are empty. */
    private static GlassHut glassLeft(int left, int weight) {
        GlassHut x = readyWith(weight, 1, -1, 0, 40);
        x.kind(1, 50, 1, 1, -1, 0, 1);
        x.kind(2, 1, 1, 1, -1, 0, 1);
        x.blow(3, 1, 0);
        for (int k = 51; k > left; k--) {
            x.blow(3, 2, 0);
        }
        x.open(0);
        x.open(1);
        x.open(2);
        return x;
    }

    private static void reasonFive() {
        CHECK.sentence("5 the BATCH has not so much GLASS left");
        due("51 left for 50", glassLeft(51, 50).blow(0, 0, 0), 0);
        due("50 left for 50", glassLeft(50, 50).blow(0, 0, 0), 0);
        reasonRefused("49 left for 50", () -> glassLeft(49, 50), 0, 0, 0, 5);
        reasonRefused("1 left for 2", () -> glassLeft(1, 2), 0, 0, 0, 5);
        due("1 left for 1", glassLeft(1, 1).blow(0, 0, 0), 0);
    }

    private static GlassHut minutesLeft(int left, int minutes) {
        GlassHut x = readyWith(1, minutes, -1, 0, 40);
        if (left < 60) {
            x.kind(1, 1, 60 - left, 1, -1, 0, 40);
            x.blow(2, 1, 0);
        }
        return x;
    }

    private static void reasonSix() {
        CHECK.sentence("6 the GANG has not so many MINUTES");
        due("60 for 60", minutesLeft(60, 60).blow(2, 0, 0), 0);
        due("31 for 30", minutesLeft(31, 30).blow(2, 0, 0), 0);
        due("30 for 30", minutesLeft(30, 30).blow(2, 0, 0), 0);
        reasonRefused("29 for 30", () -> minutesLeft(29, 30), 2, 0, 0, 6);
        reasonRefused("59 for 60", () -> minutesLeft(59, 60), 2, 0, 0, 6);
        reasonRefused("0 for 1", () -> minutesLeft(0, 1), 2, 0, 0, 6);
        due("another gang", minutesLeft(0, 1).blow(1, 0, 0), 0);
    }

    /** A ready hut with so many pieces in its bays, 60 at most. */
    private static GlassHut inBays(int many, int breaks) {
        GlassHut x = readyWith(1, 1, -1, 0, 40);
        for (int k = 0; k < many; k++) {
            x.blow(0, 0, 0);
        }
        x.kind(1, 1, 1, 1, -1, breaks, 40);
        return x;
    }

    private static void reasonSeven() {
        CHECK.sentence("7 no BAY has room");
        due("59 in bays", inBays(59, 0).blow(1, 1, 0), 0);
        reasonRefused("60 in bays", () -> inBays(60, 0), 1, 1, 0, 7);
        GlassHut x = inBays(60, 0);
        x.pass(39);
        due("an hour ahead of room", x.blow(1, 1, 0), 7);
        x.pass(1);
        due("room as they are stored", x.blow(1, 1, 0), 0);
        due("in bay 0", x.count(10), 1);
    }

    /** Each two neighbours among the reasons hold at once: the lesser is told. */
    private static void leastReason() {
        CHECK.sentence("To BLOW a PIECE .. : 0, or the least that holds");
        GlassHut x = inBays(60, 0);
        x.kind(2, 50, 60, 1, 0, 0, 1);
        x.kind(3, 50, 60, 1, 1, 0, 1);
        x.kind(1, 1, 60, 1, -1, 0, 1);
        due("6 and 7", x.blow(0, 1, 0), 6);
        due("5, 6 and 7", x.blow(0, 3, 0), 5);
        due("4 to 7", x.blow(0, 2, 0), 4);
        x.rate(0);
        x.pass(20);
        due("the bays are full yet", x.count(12), 20);
        due("heat is low", x.count(1) < 900 ? 1 : 0, 1);
        x.kind(4, 50, 60, 1, 0, 0, 1);
        due("3 to 5, 7", x.blow(0, 4, 0), 3);
        due("2 to 4, 7", x.blow(0, 4, 5), 2);
        x.lay(5, 1, 0, 0);
        due("2 to 5, 7", x.blow(0, 4, 5), 2);
        due("1 to 4", x.blow(4, 4, 5), 1);
        GlassHut y = ready();
        due("kind not told ahead of an empty pot", y.blow(0, 0, 5), 1);
    }

    private static void glassAndMinutesGo() {
        CHECK.sentence("If 0: GLASS and MINUTES go");
        GlassHut x = readyWith(50, 60, -1, 0, 1);
        x.blow(1, 0, 2);
        due("glass", x.pot(2, 1), 51);
        due("glass of another pot", x.pot(1, 1), 101);
        due("minutes", x.count(21), 0);
        due("minutes of another gang", x.count(22), 60);
        GlassHut y = readyWith(1, 1, -1, 2, 1);
        y.blow(1, 0, 2);
        y.blow(1, 0, 2);
        due("glass of a broken one goes too", y.pot(2, 1), 99);
        due("minutes of a broken one go too", y.count(21), 58);
    }

    private static void nextOfItsKind() {
        CHECK.sentence("it is the next one of its KIND");
        GlassHut x = readyWith(1, 1, -1, 2, 1);
        x.kind(4, 1, 1, 1, -1, 0, 1);
        for (int k = 1; k <= 5; k++) {
            x.blow(0, 0, 0);
            due("of kind 0", x.count(30), k);
            due("of kind 4", x.count(34), k - 1);
            x.blow(0, 4, 0);
            due("of kind 4 then", x.count(34), k);
            due("in all", x.count(7), 2 * k);
        }
    }

    private static void brokenOnTheHeap() {
        CHECK.sentence("if it breaks its weight is BROKEN glass on the heap");
        for (int weight : new int[] {1, 50}) {
            GlassHut x = readyWith(weight, 1, -1, 2, 1);
            x.blow(0, 0, 0);
            due("heap by one that stands", x.count(5), 0);
            x.blow(0, 0, 0);
            due("heap", x.count(5), weight);
            due("in bay 0", x.count(10), 1);
            due("its bay", x.piece(1, 5), -1);
            due("lay of it", x.lay(5, 1, 0, weight), 5);
        }
    }

    private static void firstBayWithRoom() {
        CHECK.sentence("else it is in the first BAY with room");
        GlassHut x = inBays(60, 0);
        x.open(1);
        x.open(2);
        x.blow(1, 1, 0);
        due("bay 1 is the first", x.piece(60, 5), 1);
        x.open(0);
        x.blow(1, 1, 0);
        due("bay 0 is the first", x.piece(61, 5), 0);
        for (int k = 0; k < 19; k++) {
            x.blow(1, 1, 0);
            due("bay 0 has room", x.piece(62 + k, 5), 0);
        }
        x.blow(1, 1, 1);
        due("bay 1 again", x.piece(81, 5), 1);
    }

    private static void batchWithoutGlass() {
        CHECK.sentence("(A BATCH without GLASS left: the POT is EMPTY.)");
        GlassHut x = glassLeft(50, 49);
        due("one is left", x.blow(0, 0, 0), 0);
        due("glass", x.pot(0, 1), 1);
        due("batch", x.pot(0, 0), 0);
        due("lay into it", x.lay(0, 1, 0, 0), -1);
        GlassHut y = glassLeft(50, 50);
        due("none is left", y.blow(0, 0, 0), 0);
        for (int what = 0; what < 6; what++) {
            due("what " + what, y.pot(0, what), -1);
        }
        due("blow", y.blow(0, 0, 0), 2);
        due("drop", y.drop(0), -1);
        due("lay into it", y.lay(0, 1, 0, 0), 5);
        due("done", y.pot(0, 2), 0);
        GlassHut z = Check.hot();
        z.lay(0, 1, 2, 0);
        z.pass(20);
        z.kind(0, 1, 1, 1, -1, 2, 1);
        z.blow(0, 0, 0);
        z.blow(0, 0, 0);
        due("the last one broke", z.piece(1, 4), 2);
        due("the pot is empty by it", z.pot(0, 0), -1);
        CHECK.sentence("a BATCH keeps its number in its PIECES");
        due("batch of it", z.piece(1, 2), 0);
    }

    private static void sevenThoughItBreaks() {
        CHECK.sentence("7 is told whether the PIECE would break or not.");
        reasonRefused("the next would break", PieceEdgesTest::nextBreaks, 1, 1, 0, 7);
        GlassHut x = nextBreaks();
        x.open(2);
        due("with room", x.blow(1, 1, 0), 0);
        due("it breaks", x.piece(60, 4), 2);
        due("bay 2 is empty", x.count(12), 0);
        reasonRefused("the next would stand", () -> inBays(60, 2), 1, 1, 0, 7);
    }

    /** A hut with 60 pieces in bays, one of them the first of kind 1, whose second breaks. */
    private static GlassHut nextBreaks() {
        GlassHut x = readyWith(1, 1, -1, 0, 40);
        x.kind(1, 1, 1, 1, -1, 2, 40);
        x.blow(1, 1, 0);
        for (int k = 0; k < 59; k++) {
            x.blow(0, 0, 0);
        }
        return x;
    }

    private static void roomForTwenty() {
        CHECK.sentence("BAYS 0 to 2, ROOM for 20 PIECES each.");
        GlassHut x = readyWith(1, 1, -1, 0, 40);
        for (int k = 0; k < 60; k++) {
            due("blow " + k, x.blow(0, 0, 0), 0);
            due("bay of " + k, x.piece(k, 5), k / 20);
            for (int bay = 0; bay < 3; bay++) {
                due("in bay " + bay, x.count(10 + bay), Math.max(0, Math.min(20, k + 1 - 20 * bay)));
            }
        }
        due("the 61st", x.blow(1, 0, 0), 7);
    }

    private static void cooledOneHourMore() {
        CHECK.sentence("In an HOUR each PIECE in a BAY has cooled one HOUR more");
        GlassHut x = inBays(41, 0);
        for (int hour = 0; hour < 40; hour++) {
            for (int piece : new int[] {0, 19, 20, 39, 40}) {
                due("piece " + piece, x.piece(piece, 6), hour);
                due("it is in its bay", x.piece(piece, 4), 0);
            }
            x.pass(1);
        }
        due("stored", x.piece(40, 4), 1);
        x.pass(1);
        due("stored ones cool no more", x.piece(40, 6), 40);
        GlassHut y = readyWith(1, 1, -1, 2, 2);
        blows(y, 2);
        y.pass(1);
        y.open(0);
        y.pass(5);
        due("opened ones cool no more", y.piece(0, 6), 1);
        due("broken ones never cooled", y.piece(1, 6), 0);
    }

    private static void storedAtLast() {
        CHECK.sentence("one that has cooled all its HOURS is STORED.");
        for (int cooling : new int[] {1, 2, 40}) {
            GlassHut x = readyWith(1, 1, -1, 0, cooling);
            blows(x, 1);
            if (cooling > 1) {
                x.pass(cooling - 1);
                due("an hour ahead", x.piece(0, 4), 0);
                due("in the bay", x.count(10), 1);
            }
            x.pass(1);
            due("stored by " + cooling, x.piece(0, 4), 1);
            due("the bay is empty", x.count(10), 0);
            due("its bay", x.piece(0, 5), 0);
            due("hours", x.piece(0, 6), cooling);
        }
        GlassHut x = readyWith(1, 1, -1, 0, 2);
        x.kind(1, 1, 1, 1, -1, 0, 1);
        x.blow(0, 1, 0);
        x.blow(0, 0, 0);
        x.blow(0, 1, 0);
        x.pass(1);
        due("first", x.piece(0, 4), 1);
        due("second", x.piece(1, 4), 0);
        due("third", x.piece(2, 4), 1);
        due("room by them", x.count(10), 1);
    }

    private static void opened() {
        CHECK.sentence("A BAY may be OPENED: all that is in it (has not cooled) breaks: its weight is BROKEN glass");
        for (int many : new int[] {0, 1, 20}) {
            GlassHut x = readyWith(3, 1, -1, 0, 2);
            blows(x, many);
            due("open of " + many, x.open(0), many);
            due("heap", x.count(5), 3 * many);
            due("the bay is empty", x.count(10), 0);
            if (many > 0) {
                due("broken since", x.piece(many - 1, 4), 3);
                due("its bay", x.piece(many - 1, 5), 0);
            }
            due("open again", x.open(0), 0);
            due("heap stays", x.count(5), 3 * many);
        }
        GlassHut x = readyWith(3, 1, -1, 0, 2);
        blows(x, 2);
        x.pass(2);
        due("open of stored ones", x.open(0), 0);
        due("they are stored yet", x.piece(0, 4), 1);
        GlassHut y = inBays(60, 0);
        for (int bay = 2; bay >= 0; bay--) {
            due("open " + bay, y.open(bay), 20);
            due("the piece in the bay ahead", y.piece(20 * bay + 19, 4), 3);
            due("heap of all", y.count(5), 20 * (3 - bay));
        }
    }

    private static void openRefused() {
        CHECK.sentence("open: NONE without it.");
        for (int bay : new int[] {LEAST, -1, 3, MOST}) {
            CHECK.refuses("open of " + bay, Probe::rich, x -> x.open(bay), -1);
        }
    }

    /** Takes more calls than an object is promised for: within 512 calls no 1000 pieces can be blown. */
    private static void thousandPieces() {
        CHECK.sentence("1000 PIECES at most are blown (then a GANG's BLOW is 7).");
        GlassHut x = Check.hot();
        x.kind(0, 1, 1, 100, -1, 0, 1);
        int blown = 0;
        for (int round = 0; round < 10; round++) {
            x.lay(0, 1, 200, 0);
            x.pass(4);
            for (int k = 0; k < 100; k++) {
                if (k % 50 == 0) {
                    x.pass(1);
                }
                due("blow " + blown, x.blow(0, 0, 0), 0);
                blown++;
            }
            if (round < 9) {
                x.drop(0);
            }
        }
        x.pass(1);
        due("pieces", x.count(7), 1000);
        due("glass is left", x.pot(0, 1), 1);
        due("the last piece", x.piece(999, 4), 1);
        due("one more", x.blow(0, 0, 0), 7);
        due("pieces then", x.count(7), 1000);
        due("of kind 0", x.count(30), 1000);
        due("no piece 1000", x.piece(1000, 0), -1);
        due("minutes stay", x.count(20), 60);
        due("pay", x.pay(0), 1000);
    }

    private static GlassHut stored(int price, int many) {
        GlassHut x = readyWith(1, 1, -1, 0, 1);
        x.kind(0, 1, 1, price, -1, 0, 1);
        blows(x, many);
        x.pass(1);
        return x;
    }

    private static void payDownwards() {
        CHECK.sentence("PAY of a GANG: of each KIND the PIECES .. times the price .., by 100, downwards; all KINDS "
                + "together.");
        due("99 by 100", stored(99, 1).pay(0), 0);
        due("100 by 100", stored(100, 1).pay(0), 1);
        due("199 by 100", stored(199, 1).pay(0), 1);
        due("2 * 99 by 100", stored(99, 2).pay(0), 1);
        due("2 * 50 by 100", stored(50, 2).pay(0), 1);
        due("1 by 100", stored(1, 60).pay(0), 0);
        due("60 * 10000 by 100", stored(10000, 60).pay(0), 6000);
        GlassHut x = stored(99, 1);
        x.kind(1, 1, 1, 99, -1, 0, 1);
        x.kind(4, 1, 1, 150, -1, 0, 1);
        x.blow(0, 1, 0);
        x.blow(0, 4, 0);
        x.pass(1);
        due("each kind downwards by itself", x.pay(0), 1);
    }

    private static void payOfStored() {
        CHECK.sentence("the PIECES that it blew and that are STORED");
        GlassHut x = readyWith(1, 1, -1, 3, 2);
        for (int gang = 0; gang < 4; gang++) {
            x.blow(gang, 0, 0);
        }
        x.pass(1);
        due("none is stored", x.pay(0), 0);
        x.pass(1);
        int[] want = {1, 1, 0, 1};
        for (int gang = 0; gang < 4; gang++) {
            due("pay of " + gang + ", the third broke", x.pay(gang), want[gang]);
        }
        x.blow(0, 0, 0);
        x.open(0);
        x.pass(2);
        due("an opened one is not paid", x.pay(0), 1);
        due("a gang that blew none", new GlassHut().pay(3), 0);
    }

    private static void payAsItIsNow() {
        CHECK.sentence("times the price (as it is now)");
        GlassHut x = stored(100, 3);
        due("pay", x.pay(0), 3);
        x.kind(0, 1, 1, 10000, -1, 0, 1);
        due("the greatest price", x.pay(0), 300);
        x.kind(0, 1, 1, 1, -1, 0, 1);
        due("the least price", x.pay(0), 0);
        x.kind(0, 1, 1, 0, -1, 0, 1);
        x.kind(0, 1, 1, 34, -1, 0, 1);
        due("3 * 34", x.pay(0), 1);
    }

    private static void payRefused() {
        CHECK.sentence("PAY of a GANG; NONE without it.");
        GlassHut x = stored(100, 3);
        for (int gang : new int[] {LEAST, -1, 4, MOST}) {
            due("pay of " + gang, x.pay(gang), -1);
        }
        for (int gang = 0; gang < 4; gang++) {
            due("pay of " + gang, x.pay(gang), gang == 0 ? 3 : 0);
        }
    }

    private static void pieceAnswers() {
        CHECK.sentence("Of a PIECE (by numbers, as they are blown; broken ones too) what 0: KIND, .. 6: HOURS it has "
                + "cooled.");
        GlassHut x = ready();
        x.kind(4, 1, 1, 1, -1, 2, 2);
        x.kind(1, 1, 1, 1, -1, 0, 40);
        x.blow(3, 4, 4);
        x.blow(2, 4, 3);
        x.pass(1);
        x.blow(1, 1, 2);
        x.pass(1);
        int[][] want = {{4, 3, 4, 8, 1, 0, 2}, {4, 2, 3, 8, 2, -1, 0}, {1, 1, 2, 9, 0, 0, 1}};
        for (int k = 0; k < 3; k++) {
            for (int what = 0; what < 7; what++) {
                due("piece " + k + " what " + what, x.piece(k, what), want[k][what]);
            }
        }
        x.open(0);
        due("broken since", x.piece(2, 4), 3);
        due("the bay of it", x.piece(2, 5), 0);
        due("the hours of it", x.piece(2, 6), 1);
        due("a stored one stays", x.piece(0, 4), 1);
    }

    private static void pieceRefused() {
        CHECK.sentence("piece: NONE without it, or for another what.");
        GlassHut x = new GlassHut();
        due("none is blown", x.piece(0, 0), -1);
        GlassHut y = readyWith(1, 1, -1, 2, 2);
        blows(y, 2);
        for (int what = 0; what < 7; what++) {
            for (int k : new int[] {LEAST, -1, 2, 3, 999, 1000, 1001, MOST}) {
                due("piece " + k + " what " + what, y.piece(k, what), -1);
            }
        }
        for (int what : new int[] {LEAST, -1, 7, 8, MOST}) {
            due("what " + what, y.piece(0, what), -1);
            due("what " + what + " of a broken one", y.piece(1, what), -1);
        }
    }
}
