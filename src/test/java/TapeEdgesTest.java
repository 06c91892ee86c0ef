import java.util.Random;

/** The edges that the text of SPANS in 'Terms' II and promises 7 to 9 name: a test for each sentence. */
public final class TapeEdgesTest {
    private static final int LEAST = Integer.MIN_VALUE;
    private static final int MOST = Integer.MAX_VALUE;
    private static final String EIGHT = "a 1 2;b 1 2;c 1 2;d 1 2;e 1 2;f 1 2;g 1 2;h 1 2";
    private static final Check CHECK = new Check();

    public static void main(String[] args) {
        feedFull();
        feedRefused();
        feedOrder();
        endRange();
        endRefused();
        emptyThen();
        manySpans();
        faultOfSpans();
        spansAhead();
        twoHundredBytes();
        eightAtMost();
        smallLetters();
        tenLetters();
        digits();
        zeroToHundred();
        fromNotAboveTo();
        blanksBetween();
        blanksAlone();
        noWordTwice();
        byteThatCannotStand();
        theEndOfTheText();
        wordTooLong();
        numberNotAsTold();
        toBelowFrom();
        wordToldTwice();
        theNinth();
        firstAlongTheText();
        leastOfOnePlace();
        againstAnotherReader();
        CHECK.finish();
    }

    private static void due(String call, long got, long want) {
        CHECK.due(call, got, want);
    }

    private static void text(String text, int want) {
        GlassHut x = new GlassHut();
        due("spans of '" + text + "'", Check.spans(x, text), want);
    }

    /** The answer to a text with a fault. */
    private static int fault(int place, int why) {
        return -2 - (1 + 8 * place + why);
    }

    private static void feedFull() {
        CHECK.sentence("Twenty bytes come behind the TAPE .. how many it has; NONE .. it would have more than 200.");
        GlassHut x = new GlassHut();
        for (int k = 1; k <= 10; k++) {
            due("feed " + k, x.feed(k, k, k, k, k), 20 * k);
            due("tape", x.count(8), 20 * k);
        }
        due("feed 11", x.feed(1, 1, 1, 1, 1), -1);
        due("a full tape", x.count(8), 200);
        for (int n = 199; n > 180; n--) {
            due("end", x.end(n), n);
            due("feed behind " + n, x.feed(1, 1, 1, 1, 1), -1);
            due("tape", x.count(8), n);
        }
        x.end(180);
        due("feed behind 180", x.feed(1, 1, 1, 1, 1), 200);
    }

    /** A tape of so many bytes, good text at their end. */
    private static GlassHut taped(int many) {
        GlassHut x = new GlassHut();
        Check.tape(x, " ".repeat(many - 8) + "a 20 100");
        return x;
    }

    private static void feedRefused() {
        CHECK.sentence("feed: NONE, and none comes");
        for (int many : new int[] {181, 190, 199, 200}) {
            CHECK.refuses("feed behind " + many, () -> taped(many), x -> x.feed(LEAST, -1, 0, 1, MOST), -1);
        }
    }

    private static void feedOrder() {
        CHECK.sentence("of each number the highest first");
        GlassHut x = new GlassHut();
        x.feed(0x61203120, 0x323B6220, 0x31203220, 0x3B632031, 0x20322020);
        due("three spans", x.spans(), 3);
        String[] highs = {"a 1 2\u0080", "a 1 2\u00ff", "\u0080 1 2", "a\u00e1 1 2"};
        int[] places = {5, 5, 0, 1};
        for (int k = 0; k < highs.length; k++) {
            text(highs[k], fault(places[k], 0));
        }
        x.feed(-1, -1, -1, -1, -1);
        due("bytes of 255", x.spans(), fault(0, 0));
        x.feed(LEAST, 0, 0, 0, 0);
        due("a byte of 128", x.spans(), fault(0, 0));
    }

    private static void endRange() {
        CHECK.sentence("The TAPE has its first n bytes alone: n");
        GlassHut x = new GlassHut();
        due("0 of none", x.end(0), 0);
        x.feed(0x61203120, 0x32303031, 0x20202020, 0x20202020, 0x20202020);
        due("all", x.end(20), 20);
        due("tape", x.count(8), 20);
        due("one less", x.end(19), 19);
        due("the first 6", x.end(6), 6);
        due("tape then", x.count(8), 6);
        x.feed(0x20202020, 0x20202020, 0x20202020, 0x20202020, 0x20202020);
        due("bytes come behind the sixth", x.count(8), 26);
        due("spans", x.spans(), 1);
        x.feed(0, 0, 0, 0, 0);
        due("none", x.end(0), 0);
        due("an empty tape", x.count(8), 0);
    }

    private static void endRefused() {
        CHECK.sentence("end: NONE, and nothing happens, if it has not so many, or n is below 0.");
        for (int n : new int[] {LEAST, -1, 21, 200, 201, MOST}) {
            CHECK.refuses("end(" + n + ") of 20", () -> taped(20), x -> x.end(n), -1);
        }
        CHECK.refuses("end(1) of none", GlassHut::new, x -> x.end(1), -1);
        CHECK.refuses("end(201) of 200", () -> taped(200), x -> x.end(201), -1);
        GlassHut x = taped(20);
        x.end(10);
        due("what was cut off can't come back", x.end(11), -1);
    }

    private static void emptyThen() {
        CHECK.sentence("The TAPE, which is empty then, is the text of SPANS");
        GlassHut x = new GlassHut();
        Check.spans(x, "a 1 2");
        due("tape behind a good text", x.count(8), 0);
        Check.spans(x, "a 1 2;");
        due("tape behind a fault", x.count(8), 0);
        due("spans of the empty tape", x.spans(), 0);
        due("feed begins anew", x.feed(0, 0, 0, 0, 0), 20);
    }

    private static void manySpans() {
        CHECK.sentence("spans: how many");
        StringBuilder told = new StringBuilder();
        for (int k = 1; k <= 8; k++) {
            told.append(k > 1 ? ";" : "").append((char) ('a' + k)).append(" 1 2");
            GlassHut x = new GlassHut();
            due("spans of " + told, Check.spans(x, told.toString()), k);
            due("count of them", x.count(9), k);
        }
        GlassHut x = new GlassHut();
        Check.spans(x, EIGHT);
        due("fewer then", Check.spans(x, "z 1 2"), 1);
        due("count of these", x.count(9), 1);
    }

    private static void faultOfSpans() {
        CHECK.sentence("-2 - its FAULT: 1 + 8 * its place and ..");
        text("5", -3);
        text("abcdefghijk", -4);
        text(" a", -2 - (1 + 16));
        text("a 0 0;a", -2 - (1 + 48 + 2));
        text(" ".repeat(199) + "z", -2 - (1 + 1600));
    }

    private static void spansAhead() {
        CHECK.sentence("(then the one ahead stays)");
        String[] wrong = {"5", "abcdefghijk 1 2", "c 0 9;c 10 100", "c 0 100;", "c 0 100;d 5 4"};
        for (String text : wrong) {
            GlassHut x = new GlassHut();
            Check.spans(x, "a 50 60;b 0 49");
            CHECK.due("a fault in " + text, Check.spans(x, text) < -2, true);
            due("spans", x.count(9), 2);
            x.lay(0, 1, 0, 0);
            due("colour 0 hundredths", x.pot(0, 5), 1);
            x.lay(1, 50, 50, 0);
            due("colour 50 hundredths", x.pot(1, 5), 0);
            x.lay(2, 39, 61, 0);
            due("colour 61 hundredths", x.pot(2, 5), -1);
        }
        GlassHut y = new GlassHut();
        Check.spans(y, "a 1");
        due("none ahead", y.count(9), 0);
    }

    private static void twoHundredBytes() {
        CHECK.sentence("The text of SPANS: at most 200 bytes");
        text(" ".repeat(195) + "a 1 2", 1);
        text("a 1 2" + " ".repeat(195), 1);
        text("a" + " ".repeat(99) + "1" + " ".repeat(98) + "2", 1);
        text("a" + " ".repeat(99) + "1" + " ".repeat(99), fault(200, 0));
        text(" ".repeat(194) + "a 1 2;", fault(200, 0));
        text(" ".repeat(199) + ";", fault(199, 0));
    }

    private static void eightAtMost() {
        CHECK.sentence("SPAN { ; SPAN }, 8 at most");
        text("a 1 2", 1);
        text(EIGHT, 8);
        text(EIGHT + " ", 8);
        text(EIGHT + ";i 1 2", fault(48, 2));
        GlassHut x = new GlassHut();
        Check.spans(x, "a 0 0;b 1 1;c 2 2;d 3 3;e 4 4;f 5 5;g 6 6;h 7 7");
        x.lay(0, 93, 7, 0);
        due("colour by the eighth", x.pot(0, 5), 7);
    }

    private static void smallLetters() {
        CHECK.sentence("WORD .. (small letters");
        text("a 1 2", 1);
        text("z 1 2", 1);
        text("abcdefghij 1 2;klmnopqrst 1 2;uvwxyz 1 2", 3);
        for (char other : new char[] {'`', '{', 'A', 'Z', '@', '[', '_', '-', '.', '\t', 0, 31, 33, 127, 255}) {
            text(other + "a 1 2", fault(0, 0));
            text("a" + other + " 1 2", fault(1, 0));
        }
    }

    private static void tenLetters() {
        CHECK.sentence("small letters, 10 at most");
        text("abcdefghi 1 2", 1);
        text("abcdefghij 1 2", 1);
        text("abcdefghijk 1 2", fault(0, 1));
        text("1 2", fault(0, 0));
    }

    private static void digits() {
        CHECK.sentence("two NUMBERS of 1 to 3 digits");
        text("a 0 9", 1);
        text("a 00 09", 1);
        text("a 000 009", 1);
        text("a 0000 9", fault(2, 1));
        text("a 0 0009", fault(4, 1));
        text("a  9", fault(4, 0));
        text("a 0 / ", fault(4, 0));
        text("a 0 : ", fault(4, 0));
        text("a / 0", fault(2, 0));
        text("a : 0", fault(2, 0));
        text("a 1 2 3", fault(6, 0));
    }

    private static void zeroToHundred() {
        CHECK.sentence("NUMBERS .. 0 to 100");
        text("a 0 0", 1);
        text("a 100 100", 1);
        text("a 99 100", 1);
        text("a 101 101", fault(2, 1));
        text("a 0 101", fault(4, 1));
        text("a 999 999", fault(2, 1));
        text("a -1 5", fault(2, 0));
        text("a +1 5", fault(2, 0));
    }

    private static void fromNotAboveTo() {
        CHECK.sentence("FROM not above TO");
        text("a 5 6", 1);
        text("a 5 5", 1);
        text("a 5 4", fault(4, 1));
        text("a 100 99", fault(6, 1));
        text("a 1 000", fault(4, 1));
        text("a 10 9", fault(5, 1));
        text("a 9 10", 1);
    }

    private static void blanksBetween() {
        CHECK.sentence("blanks (32) between");
        text("a 1 2", 1);
        text("  a   1    2  ;   b  3   4   ", 2);
        text("a 1 2;b 3 4", 2);
        text("a 1 2 ;b 3 4", 2);
        text("a 1 2; b 3 4", 2);
        for (char other : new char[] {'\t', '\n', '\r', 0, 11, 31, 33, 160}) {
            text("a" + other + "1 2", fault(1, 0));
            text("a 1" + other + "2", fault(3, 0));
            text("a 1 2" + other, fault(5, 0));
            text(other + "a 1 2", fault(0, 0));
        }
    }

    private static void blanksAlone() {
        CHECK.sentence("A text of blanks alone has no SPANS.");
        text("", 0);
        text(" ", 0);
        text(" ".repeat(199), 0);
        text(" ".repeat(200), 0);
        GlassHut x = new GlassHut();
        Check.spans(x, "a 0 100");
        due("blanks", Check.spans(x, "  "), 0);
        due("spans", x.count(9), 0);
        x.lay(0, 1, 0, 0);
        due("colour", x.pot(0, 5), -1);
        Check.spans(x, "a 0 100");
        due("an empty tape", x.spans(), 0);
        due("spans then", x.count(9), 0);
    }

    private static void noWordTwice() {
        CHECK.sentence("no WORD twice");
        text("a 1 2;a 1 2", fault(6, 2));
        text("a 1 2;aa 1 2", 2);
        text("aa 1 2;a 1 2", 2);
        text("ab 1 2;ba 1 2", 2);
        text("ab 1 2;ac 1 2;bb 1 2", 3);
        text("abcdefghij 1 2;abcdefghik 1 2", 2);
        text("abcdefghij 1 2;abcdefghij 1 2", fault(15, 2));
        text("a 1 2;b 1 2;c 1 2;d 1 2;e 1 2;f 1 2;g 1 2;a 1 2", fault(42, 2));
        text("a 1 2;b 1 2;c 1 2;d 1 2;e 1 2;f 1 2;g 1 2;g 1 2", fault(42, 2));
        GlassHut x = new GlassHut();
        due("a text", Check.spans(x, "a 1 2"), 1);
        due("the same word in the next text", Check.spans(x, "a 1 2"), 1);
    }

    /** At each place of a text each byte that can't stand there has its fault there. */
    private static void byteThatCannotStand() {
        CHECK.sentence("0 a byte that can't stand there");
        String good = "ab 01 34 ; c 5 6";
        String[] mayStand = {" z", " z0", " z0", " 0", " 0", " 0", " 0", " 0;", " 0;", " ;", " z", " z", " z0", " 0",
            " 0", " 0;"};
        for (int place = 0; place < good.length(); place++) {
            for (int one = 0; one < 256; one++) {
                char told = (char) one;
                char sort = told >= 'a' && told <= 'z' ? 'z' : told >= '0' && told <= '9' ? '0' : told;
                if (mayStand[place].indexOf(sort) < 0) {
                    text(good.substring(0, place) + told + good.substring(place + 1), fault(place, 0));
                }
            }
        }
    }

    private static void theEndOfTheText() {
        CHECK.sentence("0 .. or the end (behind the last byte)");
        String good = "ab 1 2;cd 3 4";
        int[] whole = {6, 13};
        for (int n = 1; n < good.length(); n++) {
            String part = good.substring(0, n);
            text(part, n == whole[0] ? 1 : fault(n, 0));
            text(part + "  ", n == whole[0] ? 1 : fault(n + 2, 0));
        }
        text(good, 2);
        text("", 0);
        text(" ".repeat(198) + "ab", fault(200, 0));
    }

    private static void wordTooLong() {
        CHECK.sentence("1 a WORD too long");
        text("abcdefghijk 1 2", fault(0, 1));
        text("  abcdefghijk 1 2", fault(2, 1));
        text("a 1 2; bcdefghijkl 1 2", fault(7, 1));
        text("abcdefghijk", fault(0, 1));
        text("z".repeat(200), fault(0, 1));
        text(" ".repeat(189) + "abcdefghijk", fault(189, 1));
    }

    private static void numberNotAsTold() {
        CHECK.sentence("1 .. a NUMBER not as told");
        text("a 101 5", fault(2, 1));
        text("a   101 5", fault(4, 1));
        text("a 1000 5", fault(2, 1));
        text("a 0001 5", fault(2, 1));
        text("a 1 101", fault(4, 1));
        text("a 1 0002", fault(4, 1));
        text("a " + "0".repeat(198), fault(2, 1));
        text("a 1 " + "9".repeat(196), fault(4, 1));
        text("a 4294967297 4294967298", fault(2, 1));
        text("a 1 18446744073709551618", fault(4, 1));
    }

    private static void toBelowFrom() {
        CHECK.sentence("(TO below FROM: at TO)");
        text("a 2 1", fault(4, 1));
        text("a 100    0", fault(9, 1));
        text("a 1 2;b 99 98", fault(11, 1));
        text("a 2 1?", fault(4, 1));
    }

    private static void wordToldTwice() {
        CHECK.sentence("2 a WORD told twice");
        text("a 1 2;a", fault(6, 2));
        text("a 1 2;   a 1 2", fault(9, 2));
        text("a 1 2;a?", fault(6, 2));
        text("a 1 2;a 101 1000", fault(6, 2));
        text("ab 1 2;b 1 2;ab 1 2", fault(13, 2));
    }

    private static void theNinth() {
        CHECK.sentence("2 .. the ninth");
        text(EIGHT + ";i 1 2", fault(48, 2));
        text(EIGHT + ";   i 1 2", fault(51, 2));
        text(EIGHT + ";i", fault(48, 2));
        text(EIGHT + ";i?", fault(48, 2));
        text(EIGHT + ";i 1 2;j 1 2", fault(48, 2));
        text(EIGHT + ";", fault(48, 0));
        text(EIGHT + ";;", fault(48, 0));
    }

    private static void firstAlongTheText() {
        CHECK.sentence("FAULTS, the first along the text");
        text("abcdefghijk?", fault(0, 1));
        text("a 101?", fault(2, 1));
        text("a 101 1000", fault(2, 1));
        text("a 5 4;a 1 2", fault(4, 1));
        text("a 1 2;a 5 4;", fault(6, 2));
        text("? abcdefghijk", fault(0, 0));
        text("a 1 2;b ?;a", fault(8, 0));
        text("a 5 4" + EIGHT, fault(4, 1));
    }

    private static void leastOfOnePlace() {
        CHECK.sentence("(Of one place the least number.)");
        text(EIGHT + ";abcdefghijk 1 2", fault(48, 1));
        text(EIGHT + ";5", fault(48, 0));
        text(EIGHT + ";a 1 2", fault(48, 2));
        text(EIGHT + "; ", fault(49, 0));
    }

    /** Random short texts are read by steps over single bytes too; both must answer alike. */
    private static void againstAnotherReader() {
        CHECK.sentence("The text of SPANS, read in another way");
        Random dice = new Random(5);
        String[] parts = {"a", "b", "ab", " ", "  ", ";", "0", "1", "5", "10", "100", "101", "0000", "abcdefghij",
            "k", "a 1 2", ";b 3 4", "; c 0 100", "?", "A"};
        for (int round = 0; round < 20000; round++) {
            StringBuilder told = new StringBuilder();
            int many = dice.nextInt(9);
            for (int k = 0; k < many; k++) {
                int kinds = dice.nextInt(4) == 0 ? parts.length : 18;
                told.append(parts[dice.nextInt(kinds)]);
            }
            text(told.toString(), SpanReader.answer(told.toString()));
        }
        for (int round = 0; round < 5000; round++) {
            StringBuilder told = new StringBuilder();
            int many = 7 + dice.nextInt(4);
            for (int k = 0; k < many; k++) {
                char word = (char) ('a' + (dice.nextInt(40) == 0 ? dice.nextInt(k + 1) : k));
                told.append(k > 0 ? ";" : "").append(word).append(' ').append(dice.nextInt(10)).append(' ');
                told.append(dice.nextInt(15) == 0 ? dice.nextInt(10) : 9);
            }
            text(told.toString(), SpanReader.answer(told.toString()));
        }
    }
}
