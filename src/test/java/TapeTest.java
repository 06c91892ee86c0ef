/** Promises 7 to 9: feed, end, spans with its faults. */
public final class TapeTest {
    private static final Check CHECK = new Check();

    public static void main(String[] args) {
        feeds();
        ends();
        byteOrder();
        goodTexts();
        byteFaults();
        formFaults();
        spanFaults();
        faultKeepsSpans();
        everyByteAtOnePlace();
        bytesBehindTheEnd();
        fullTapes();
        CHECK.finish();
    }

    private static void due(String call, long got, long want) {
        CHECK.due(call, got, want);
    }

    private static void text(String text, int want) {
        GlassHut x = new GlassHut();
        due("spans of '" + text + "'", Check.spans(x, text), want);
        due("tape after '" + text + "'", x.count(8), 0);
        due("spans kept of '" + text + "'", x.count(9), want < 0 ? 0 : want);
    }

    private static int fault(int place, int why) {
        return -2 - (1 + 8 * place + why);
    }

    private static void feeds() {
        GlassHut x = new GlassHut();
        for (int k = 1; k <= 10; k++) {
            due("feed " + k, x.feed(0, 0, 0, 0, 0), 20 * k);
        }
        due("feed of a full tape", x.feed(0, 0, 0, 0, 0), -1);
        due("tape", x.count(8), 200);
        due("end 181", x.end(181), 181);
        due("feed behind 181", x.feed(0, 0, 0, 0, 0), -1);
        due("tape 181", x.count(8), 181);
        due("end 180", x.end(180), 180);
        due("feed behind 180", x.feed(0, 0, 0, 0, 0), 200);
    }

    private static void ends() {
        GlassHut x = new GlassHut();
        due("end 1 of none", x.end(1), -1);
        due("end 0 of none", x.end(0), 0);
        x.feed(0, 0, 0, 0, 0);
        due("end 21", x.end(21), -1);
        due("end -1", x.end(-1), -1);
        due("end least", x.end(Integer.MIN_VALUE), -1);
        due("tape", x.count(8), 20);
        due("end 20", x.end(20), 20);
        due("end 5", x.end(5), 5);
        due("end 6", x.end(6), -1);
        due("end 0", x.end(0), 0);
        due("feed then", x.feed(1, 2, 3, 4, 5), 20);
    }

    private static void byteOrder() {
        GlassHut x = new GlassHut();
        x.feed('a' << 24 | ' ' << 16 | '1' << 8 | ' ', '2' << 24 | ';' << 16 | 'b' << 8 | ' ',
                '3' << 24 | ' ' << 16 | '4' << 8 | ';', 'c' << 24 | ' ' << 16 | '5' << 8 | ' ',
                '6' << 24 | ' ' << 16 | ' ' << 8 | ' ');
        due("spans by five numbers", x.spans(), 3);
        x.feed(0x61203120, 0x32FF0000, 0, 0, 0);
        due("a high byte", x.spans(), fault(5, 0));
    }

    private static void goodTexts() {
        text("", 0);
        text(" ", 0);
        text("   ", 0);
        text("a 0 100", 1);
        text("  a   000  100  ", 1);
        text("clear 0 19; green 20 30;brown 25 40", 3);
        text("a 1 2 ; b 1 2", 2);
        text("abcdefghij 5 5", 1);
        text("a 1 2;ab 1 2;b 1 2;aa 1 2", 4);
        text("a 1 2;b 1 2;c 1 2;d 1 2;e 1 2;f 1 2;g 1 2;h 1 2", 8);
        StringBuilder blanks = new StringBuilder("z 9 10");
        while (blanks.length() < 200) {
            blanks.append(' ');
        }
        text(blanks.toString(), 1);
        text("a1 2", 1);
    }

    private static void byteFaults() {
        text("green", fault(5, 0));
        text("green  ", fault(7, 0));
        text("green 5", fault(7, 0));
        text("green 5 ", fault(8, 0));
        text("green 5 9 x", fault(10, 0));
        text("green 5 9x", fault(9, 0));
        text("green 5 9 7", fault(10, 0));
        text("green 5 9;", fault(10, 0));
        text("green 5 9; ", fault(11, 0));
        text("green 5 9;;", fault(10, 0));
        text("5", fault(0, 0));
        text(";", fault(0, 0));
        text("  ;", fault(2, 0));
        text("A 1 2", fault(0, 0));
        text("aB 1 2", fault(1, 0));
        text("a -1 2", fault(2, 0));
        text("a b 2", fault(2, 0));
        text("a 1;2", fault(3, 0));
        text("a\t1 2", fault(1, 0));
        text("a 1 2\0", fault(5, 0));
        text("a 1 2\n", fault(5, 0));
        text("a`1 2", fault(1, 0));
        text("a{1 2", fault(1, 0));
        text("a 1/2", fault(3, 0));
        text("a 1:2", fault(3, 0));
    }

    private static void formFaults() {
        text("abcdefghijk 1 2", fault(0, 1));
        text("abcdefghijk", fault(0, 1));
        text("abcdefghijk?", fault(0, 1));
        text("green 101 5", fault(6, 1));
        text("green 5 101", fault(8, 1));
        text("green 999 5", fault(6, 1));
        text("a 0005 9", fault(2, 1));
        text("a 5 0009", fault(4, 1));
        text("a 1000?", fault(2, 1));
        text("a 99999999999999999999999999 5", fault(2, 1));
        text("a 4294967301 9", fault(2, 1));
        text("green 5 4", fault(8, 1));
        text("green 100 099", fault(10, 1));
        text("a 1 2;green 5   4;a 1 2", fault(16, 1));
    }

    private static void spanFaults() {
        text("green 5 9;green 1 2", fault(10, 2));
        text("green 5 9; green", fault(11, 2));
        text("green 5 9;green?", fault(10, 2));
        text("a 1 2;b 1 2;a 1 2", fault(12, 2));
        text("a 1 2;b 1 2;b 3 4", fault(12, 2));
        text("abc 1 2;de 1 2;fgh 1 2;de 3 4", fault(23, 2));
        String eight = "a 1 2;b 1 2;c 1 2;d 1 2;e 1 2;f 1 2;g 1 2;h 1 2";
        text(eight + ";i 1 2", fault(48, 2));
        text(eight + "; i", fault(49, 2));
        text(eight + ";a 1 2", fault(48, 2));
        text(eight + ";abcdefghijk 1 2", fault(48, 1));
        text(eight + ";", fault(48, 0));
        text(eight + ";5", fault(48, 0));
    }

    private static void faultKeepsSpans() {
        GlassHut x = new GlassHut();
        due("two spans", Check.spans(x, "a 0 49;b 50 100"), 2);
        due("a fault", Check.spans(x, "c 0 100;"), fault(8, 0));
        due("spans ahead stay", x.count(9), 2);
        x.lay(0, 50, 50, 0);
        due("colour by the ones ahead", x.pot(0, 5), 1);
        due("blanks alone", Check.spans(x, "  "), 0);
        due("no spans then", x.count(9), 0);
        due("the colour of the batch stays", x.pot(0, 5), 1);
        x.lay(1, 50, 50, 0);
        due("no colour without spans", x.pot(1, 5), -1);
    }

    /** What end cut off, or an earlier text left, is no part of a text. */
    private static void bytesBehindTheEnd() {
        String[] texts = {"a 1 23", "a 12 3", "ab 1 2", "a  1 2", "a 1 2;b 3 4"};
        for (String text : texts) {
            for (int n = 0; n < text.length(); n++) {
                GlassHut x = new GlassHut();
                Check.tape(x, text);
                x.end(n);
                GlassHut y = new GlassHut();
                due("the first " + n + " of '" + text + "'", x.spans(), Check.spans(y, text.substring(0, n)));
            }
        }
        GlassHut x = new GlassHut();
        Check.tape(x, "a 1 234");
        x.end(5);
        due("TO without what is cut off", x.spans(), 1);
        Check.tape(x, "abcdefghijkl");
        x.end(10);
        due("a WORD without what is cut off", x.spans(), fault(10, 0));
        Check.tape(x, "a 1 2      ");
        x.end(3);
        due("blanks that are cut off", x.spans(), fault(3, 0));
    }

    private static void fullTapes() {
        text("a".repeat(200), fault(0, 1));
        text("a " + "1".repeat(198), fault(2, 1));
        text(" ".repeat(200), 0);
        text(" ".repeat(190) + "abcdefghij", fault(200, 0));
        text(" ".repeat(195) + "a 1 2", 1);
        text(" ".repeat(194) + "a 1 2;", fault(200, 0));
    }

    private static void everyByteAtOnePlace() {
        for (int one = 0; one < 256; one++) {
            char told = (char) one;
            boolean letter = told >= 'a' && told <= 'z';
            text("z" + told + " 1 2", letter || told == ' ' ? 1
                    : told >= '0' && told <= '9' ? one == '0' || one == '1' ? fault(5, 0) : fault(3, 1)
                    : fault(1, 0));
        }
    }
}
