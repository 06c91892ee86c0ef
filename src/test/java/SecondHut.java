import java.util.ArrayList;
import java.util.HashMap;
import java.util.List;
import java.util.Map;
import java.util.TreeMap;
import java.util.regex.Matcher;
import java.util.regex.Pattern;

/**
 * The document once more, in another form: what happened is kept, and all else is worked out from it. It has the same
 * author as the class, who knew the class: a slip shows in a comparison, a sentence misread in both does not.
 */
final class SecondHut {
    private static final int NONE = -1;

    /** A batch in a pot. */
    private static final class Batch {
        int number;
        int glass;
        int done;
        int need;
        int colour;

        boolean ready() {
            return done >= need;
        }
    }

    /** A piece; opened is the hour as its bay was opened, or NONE. */
    private record Blown(int kind, int gang, int batch, int hour, int bay, int weight, int cooling, int[] opened) {
        int cooled(int now) {
            return bay == NONE ? 0 : Math.min(cooling, (opened[0] == NONE ? now : opened[0]) - hour);
        }

        int state(int now) {
            return bay == NONE ? 2 : opened[0] != NONE ? 3 : cooled(now) == cooling ? 1 : 0;
        }
    }

    private final Map<Integer, Integer> rights = new HashMap<>();
    private final Map<String, Integer> cutBySiteAndYear = new HashMap<>();
    private final Map<String, Integer> minutesByGangAndHour = new HashMap<>();
    private final Map<String, Integer> coins = new HashMap<>();
    private final Map<Integer, Batch> pots = new TreeMap<>();
    private final Map<Integer, int[]> kinds = new TreeMap<>();
    private final List<int[]> colds = new ArrayList<>();
    private final List<Blown> pieces = new ArrayList<>();
    private List<int[]> spans = new ArrayList<>();
    private StringBuilder tape = new StringBuilder();
    private int[] shifted;
    private List<Integer> moved = List.of();
    private int now;
    private int heat;
    private int stack;
    private int rate;
    private int site;
    private int heap;
    private int laid;

    private static boolean in(int x, int least, int most) {
        return least <= x && x <= most;
    }

    int right(int where, int measures) {
        if (!in(where, 0, 4) || !in(measures, 0, 10000)) {
            return NONE;
        }
        Integer was = rights.put(where, measures);
        return was == null ? 0 : was;
    }

    private String siteAndYear() {
        return site + "/" + now / 500;
    }

    int cut(int measures) {
        if (!in(measures, 1, 10000) || now == 5000) {
            return NONE;
        }
        int left = rights.getOrDefault(site, 0) - cutBySiteAndYear.getOrDefault(siteAndYear(), 0);
        int wood = measures;
        wood = wood > left ? left : wood;
        wood = stack + wood > 20000 ? 20000 - stack : wood;
        wood = wood < 0 ? 0 : wood;
        cutBySiteAndYear.merge(siteAndYear(), wood, Integer::sum);
        stack += wood;
        return wood;
    }

    int rate(int told) {
        if (!in(told, 0, 20)) {
            return NONE;
        }
        int was = rate;
        rate = told;
        return was;
    }

    int cold(int from, int to, int degrees) {
        if (colds.size() == 20 || !in(from, 0, 4999) || !in(to, 0, 4999) || from > to || !in(degrees, 1, 100)) {
            return NONE;
        }
        colds.add(new int[] {from, to, degrees});
        return colds.size();
    }

    boolean go(int where) {
        if (!in(where, 0, 4) || where == site || now == 5000 || !pots.isEmpty()) {
            return false;
        }
        for (int bay = 0; bay < 3; bay++) {
            if (inBay(bay) > 0) {
                return false;
            }
        }
        site = where;
        heat = 0;
        stack = 0;
        return true;
    }

    private int inBay(int bay) {
        return (int) pieces.stream().filter(one -> one.bay() == bay && one.state(now) == 0).count();
    }

    int feed(int a, int b, int c, int d, int e) {
        if (tape.length() > 180) {
            return NONE;
        }
        for (int number : new int[] {a, b, c, d, e}) {
            String digits = String.format("%08x", number);
            for (int k = 0; k < 8; k += 2) {
                tape.append((char) Integer.parseInt(digits.substring(k, k + 2), 16));
            }
        }
        return tape.length();
    }

    int end(int n) {
        if (n < 0 || n > tape.length()) {
            return NONE;
        }
        tape.setLength(n);
        return n;
    }

    int spans() {
        String text = tape.toString();
        tape = new StringBuilder();
        int answer = SpanReader.answer(text);
        if (answer >= 0) {
            spans = new ArrayList<>();
            Matcher found = Pattern.compile("[a-z]+ *([0-9]+) +([0-9]+)").matcher(text);
            while (found.find()) {
                spans.add(new int[] {Integer.parseInt(found.group(1)), Integer.parseInt(found.group(2))});
            }
        }
        return answer;
    }

    int lay(int pot, int sand, int ash, int broken) {
        if (!in(pot, 0, 5) || pots.containsKey(pot) || laid == 200 || broken > heap || now == 5000
                || !in(sand, 1, 200) || !in(ash, 0, 200) || !in(broken, 0, 200)) {
            return NONE;
        }
        Batch batch = new Batch();
        batch.number = laid++;
        batch.glass = sand + ash / 2 + broken;
        batch.need = (60 * sand + 10 * ash + 20 * broken) / (sand + ash + broken);
        batch.colour = NONE;
        int hundredths = ash * 100 / (sand + ash);
        for (int k = spans.size() - 1; k >= 0; k--) {
            if (spans.get(k)[0] <= hundredths && hundredths <= spans.get(k)[1]) {
                batch.colour = k;
            }
        }
        heap -= broken;
        pots.put(pot, batch);
        return batch.number;
    }

    int buy(int broken) {
        if (!in(broken, 1, 5000) || heap + broken > 100000) {
            return NONE;
        }
        heap += broken;
        return heap;
    }

    int drop(int pot) {
        Batch batch = pots.remove(pot);
        if (batch == null) {
            return NONE;
        }
        heap += batch.glass;
        return batch.glass;
    }

    boolean kind(int k, int weight, int minutes, int price, int colour, int breaks, int cooling) {
        if (in(k, 0, 4) && in(weight, 1, 50) && in(minutes, 1, 60) && in(price, 1, 10000) && in(colour, NONE, 7)
                && in(breaks, 0, 50) && breaks != 1 && in(cooling, 1, 40)) {
            kinds.put(k, new int[] {weight, minutes, price, colour, breaks, cooling});
            return true;
        }
        return false;
    }

    private int minutesLeft(int gang) {
        return 60 - minutesByGangAndHour.getOrDefault(gang + "/" + now, 0);
    }

    private int blownOf(int kind) {
        return (int) pieces.stream().filter(one -> one.kind() == kind).count();
    }

    int blow(int gang, int kind, int pot) {
        if (!in(gang, 0, 3) || !in(pot, 0, 5) || !kinds.containsKey(kind) || now == 5000) {
            return 1;
        }
        int[] told = kinds.get(kind);
        Batch batch = pots.get(pot);
        if (batch == null || !batch.ready()) {
            return 2;
        }
        if (heat < 900) {
            return 3;
        }
        if (told[3] != NONE && told[3] != batch.colour) {
            return 4;
        }
        if (told[0] > batch.glass) {
            return 5;
        }
        if (told[1] > minutesLeft(gang)) {
            return 6;
        }
        int bay = inBay(0) < 20 ? 0 : inBay(1) < 20 ? 1 : inBay(2) < 20 ? 2 : NONE;
        if (bay == NONE || pieces.size() == 1000) {
            return 7;
        }
        batch.glass -= told[0];
        if (batch.glass == 0) {
            pots.remove(pot);
        }
        minutesByGangAndHour.merge(gang + "/" + now, told[1], Integer::sum);
        boolean breaks = told[4] != 0 && (blownOf(kind) + 1) % told[4] == 0;
        heap += breaks ? told[0] : 0;
        pieces.add(new Blown(kind, gang, batch.number, now, breaks ? NONE : bay, told[0], told[5], new int[] {NONE}));
        return 0;
    }

    int open(int bay) {
        if (!in(bay, 0, 2)) {
            return NONE;
        }
        int many = 0;
        for (Blown one : pieces) {
            if (one.bay() == bay && one.state(now) == 0) {
                one.opened()[0] = now;
                heap += one.weight();
                many++;
            }
        }
        return many;
    }

    int pass(int hours) {
        if (!in(hours, 1, 500) || now + hours > 5000) {
            return NONE;
        }
        for (int last = now + hours; now < last; now++) {
            int burnt = stack < rate ? stack : rate;
            stack -= burnt;
            int next = heat + 30 * burnt - heat / 20;
            for (int[] spell : colds) {
                next -= in(now, spell[0], spell[1]) ? spell[2] : 0;
            }
            heat = next < 0 ? 0 : next > 2000 ? 2000 : next;
            for (Batch batch : pots.values()) {
                if (heat >= 1300) {
                    batch.done += 3;
                } else if (heat >= 1100) {
                    batch.done += 2;
                } else if (heat < 800 && !batch.ready() && batch.done > 0) {
                    batch.done--;
                }
            }
        }
        return heat;
    }

    int pot(int k, int what) {
        Batch batch = pots.get(k);
        if (batch == null || !in(what, 0, 5)) {
            return NONE;
        }
        return new int[] {batch.number, batch.glass, batch.done, batch.need, batch.ready() ? 1 : 0,
            batch.colour}[what];
    }

    int piece(int k, int what) {
        if (!in(k, 0, pieces.size() - 1) || !in(what, 0, 6)) {
            return NONE;
        }
        Blown one = pieces.get(k);
        return new int[] {one.kind(), one.gang(), one.batch(), one.hour(), one.state(now), one.bay(),
            one.cooled(now)}[what];
    }

    int pay(int gang) {
        if (!in(gang, 0, 3)) {
            return NONE;
        }
        int sum = 0;
        for (Map.Entry<Integer, int[]> told : kinds.entrySet()) {
            long stored = pieces.stream().filter(one -> one.gang() == gang && one.kind() == told.getKey()
                    && one.state(now) == 1).count();
            sum += (int) (stored * told.getValue()[2] / 100);
        }
        return sum;
    }

    int shift(int minutes, int glass, int colour) {
        if (!in(minutes, 0, 480) || !in(glass, 0, 500) || !in(colour, 0, 7)) {
            return NONE;
        }
        int[] best = bestShift(0, minutes, glass, colour, new HashMap<>());
        shifted = best;
        return best[7];
    }

    /** The best numbers of a kind and all later ones; a row has five numbers, the minutes, the glass and the prices. */
    private int[] bestShift(int k, int minutes, int glass, int colour, Map<Integer, int[]> known) {
        if (k == 5) {
            return new int[8];
        }
        int key = (k * 512 + minutes) * 512 + glass;
        int[] best = known.get(key);
        if (best != null) {
            return best;
        }
        int[] told = kinds.get(k);
        boolean usable = told != null && (told[3] == NONE || told[3] == colour);
        for (int many = 0; many == 0 || usable && many * told[1] <= minutes && many * told[0] <= glass; many++) {
            int of = usable ? many : 0;
            int[] rest = bestShift(k + 1, minutes - (of > 0 ? of * told[1] : 0), glass - (of > 0 ? of * told[0] : 0),
                    colour, known).clone();
            rest[k] = of;
            rest[5] += of > 0 ? of * told[1] : 0;
            rest[6] += of > 0 ? of * told[0] : 0;
            rest[7] += of > 0 ? of * told[2] : 0;
            // more of this kind comes later here, so it stands at equal sums and minutes
            if (best == null || rest[7] > best[7] || rest[7] == best[7] && rest[5] <= best[5]) {
                best = rest;
            }
        }
        known.put(key, best);
        return best;
    }

    int shifted(int what) {
        return shifted == null || !in(what, 0, 6) ? NONE : shifted[what];
    }

    int cost(int where, int year, int told) {
        if (!in(where, 0, 4) || !in(year, 0, 9) || !in(told, 0, 100000)) {
            return NONE;
        }
        Integer was = coins.put("cost " + where + " " + year, told);
        return was == null ? 0 : was;
    }

    int way(int from, int to, int told) {
        if (!in(from, 0, 4) || !in(to, 0, 4) || from == to || !in(told, 0, 100000)) {
            return NONE;
        }
        Integer was = coins.put("way " + from + " " + to, told);
        return was == null ? 0 : was;
    }

    int move(int years) {
        if (!in(years, 1, 10)) {
            return NONE;
        }
        // the best row of sites for each site on which it may end, longer by a year each time
        Map<Integer, List<Integer>> rows = new TreeMap<>();
        rows.put(site, List.of());
        for (int year = 0; year < years; year++) {
            Map<Integer, List<Integer>> longer = new TreeMap<>();
            for (List<Integer> row : rows.values()) {
                for (int to = 0; to < 5; to++) {
                    List<Integer> next = new ArrayList<>(row);
                    next.add(to);
                    longer.merge(to, next, this::better);
                }
            }
            rows = longer;
        }
        moved = rows.values().stream().reduce(this::better).get();
        return sumOf(moved);
    }

    private int sumOf(List<Integer> row) {
        int sum = 0;
        int from = site;
        for (int year = 0; year < row.size(); year++) {
            int to = row.get(year);
            sum += coins.getOrDefault("way " + from + " " + to, 0) + coins.getOrDefault("cost " + to + " " + year, 0);
            from = to;
        }
        return sum;
    }

    private List<Integer> better(List<Integer> one, List<Integer> other) {
        int less = sumOf(one) - sumOf(other);
        for (int year = 0; less == 0 && year < one.size(); year++) {
            less = one.get(year) - other.get(year);
        }
        return less <= 0 ? one : other;
    }

    int moved(int year) {
        return in(year, 0, moved.size() - 1) ? moved.get(year) : NONE;
    }

    int count(int what) {
        if (in(what, 0, 9)) {
            return new int[] {now, heat, stack, site, cutBySiteAndYear.getOrDefault(siteAndYear(), 0), heap, laid,
                pieces.size(), tape.length(), spans.size()}[what];
        }
        if (in(what, 10, 12)) {
            return inBay(what - 10);
        }
        if (in(what, 20, 23)) {
            return minutesLeft(what - 20);
        }
        return in(what, 30, 34) ? blownOf(what - 30) : NONE;
    }
}
