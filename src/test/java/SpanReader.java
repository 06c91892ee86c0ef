import java.util.ArrayList;
import java.util.List;
import java.util.regex.Matcher;
import java.util.regex.Pattern;

/** A second reader of the text of SPANS: by tokens, with all faults gathered and the first one taken. */
final class SpanReader {
    private static final Pattern TOKEN = Pattern.compile("[a-z]+|[0-9]+|;|[^ ]");

    private final List<String> words = new ArrayList<>();
    private int fault = Integer.MAX_VALUE;
    private int from;

    private SpanReader() {
    }

    /** What the call spans answers to a text. */
    static int answer(String text) {
        return text.matches(" *") ? 0 : new SpanReader().read(text);
    }

    private int read(String text) {
        Matcher found = TOKEN.matcher(text);
        int turn = 0;
        while (found.find()) {
            token(turn % 4, found.start(), found.group());
            turn++;
        }
        if (turn % 4 != 3) {
            note(text.length(), 0);
        }
        return fault == Integer.MAX_VALUE ? words.size() : -2 - fault;
    }

    /** Turns: 0 a word, 1 FROM, 2 TO, 3 a semicolon; behind a fault the turns mean nothing, but lie further on. */
    private void token(int turn, int place, String token) {
        boolean word = token.matches("[a-z]+");
        boolean number = token.matches("[0-9]+");
        boolean stands = turn == 0 ? word : turn == 3 ? token.equals(";") : number;
        if (!stands) {
            note(place, 0);
        } else if (turn == 0) {
            word(place, token);
        } else if (turn < 3) {
            number(turn, place, token);
        }
    }

    private void word(int place, String token) {
        if (token.length() > 10) {
            note(place, 1);
        }
        if (words.contains(token) || words.size() >= 8) {
            note(place, 2);
        }
        words.add(token);
    }

    private void number(int turn, int place, String token) {
        int value = token.length() > 3 ? 1000 : Integer.parseInt(token);
        if (value > 100 || turn == 2 && value < from) {
            note(place, 1);
        }
        from = value;
    }

    private void note(int place, int why) {
        fault = Math.min(fault, 1 + 8 * place + why);
    }
}
