import java.lang.reflect.Method;
import java.util.Arrays;
import java.util.Random;

/** All promises: random runs of at most 512 calls, made to a hut and to the second reading of the document. */
public final class SecondTest {
    private static final int RUNS = 500;
    private static final int CALLS = 512;
    /** Of each argument of a call the least and the greatest that is as told. */
    private static final String[] RANGES = {"right 0 4 0 10000", "cut 1 10000", "rate 0 20",
        "cold 0 4999 0 4999 1 100", "go 0 4", "end 0 200", "spans", "lay 0 5 1 200 0 200 0 200", "buy 1 5000",
        "drop 0 5", "kind 0 4 1 50 1 60 1 10000 -1 7 0 50 1 40", "blow 0 3 0 4 0 5", "open 0 2", "pass 1 500",
        "pot 0 5 0 5", "piece 0 999 0 6", "pay 0 3", "shift 0 480 0 500 0 7", "shifted 0 6", "cost 0 4 0 9 0 100000",
        "way 0 4 0 4 0 100000", "move 1 10", "moved 0 9", "count 0 34"};
    private static final String[] TEXTS = {"", "  ", "clear 0 19; green 20 60;brown 61 100", "a 0 100",
        "a 50 50;b 0 49;c 51 100", "green 5 4", "a 1 2;a 3 4", "abcdefghijk 1 2", "x 0 98;y 99 99",
        "a 0 9;b 10 19;c 20 29;d 30 39;e 40 49;f 50 59;g 60 79;h 80 100"};
    private static final Check CHECK = new Check();

    private final Random dice;
    private final GlassHut first = new GlassHut();
    private final SecondHut second = new SecondHut();
    private final String name;
    /** What a run mostly does: 0 it blows pieces, 1 some of everything, 2 it comes to the end of all hours. */
    private final int sort;
    private int calls;

    private SecondTest(int seed) {
        dice = new Random(seed);
        name = "run " + seed + " ";
        sort = seed % 3;
    }

    public static void main(String[] args) throws Exception {
        int runs = args.length > 0 ? Integer.parseInt(args[0]) : RUNS;
        for (int seed = 0; seed < runs; seed++) {
            SecondTest run = new SecondTest(seed);
            run.begin();
            while (run.calls < CALLS) {
                run.step();
            }
        }
        CHECK.finish();
    }

    private void call(String told, int... numbers) throws Exception {
        if (calls >= CALLS) {
            return;
        }
        calls++;
        Object due = invoke(second, told, numbers);
        Object got = invoke(first, told, numbers);
        CHECK.due(name + "call " + calls + " " + told + Arrays.toString(numbers) + ": " + got + ", due is " + due,
                got.equals(due), true);
    }

    private static Object invoke(Object hut, String told, int[] numbers) throws Exception {
        Class<?>[] types = new Class<?>[numbers.length];
        Arrays.fill(types, int.class);
        Method method = hut.getClass().getDeclaredMethod(told, types);
        return method.invoke(hut, Arrays.stream(numbers).boxed().toArray());
    }

    private int among(int least, int most) {
        return least + dice.nextInt(most - least + 1);
    }

    /** Most runs begin with wood, spans and kinds, so that pieces are blown in them. */
    private void begin() throws Exception {
        for (int many = sort == 2 ? among(4, 9) : 0; many > 0; many--) {
            call("pass", 500);
        }
        if (dice.nextInt(8) == 0) {
            return;
        }
        call("right", 0, 10000);
        call("cut", among(1, 10000));
        call("rate", sort == 0 ? 20 : among(12, 20));
        text(TEXTS[2 + dice.nextInt(3)]);
        for (int k = 0; k < 5; k++) {
            easyKind(k);
        }
        for (int pot = 0; pot < 6; pot++) {
            call("lay", pot, among(1, 60), among(0, 200), 0);
        }
        call("pass", among(1, 20));
    }

    private void easyKind(int k) throws Exception {
        boolean alike = dice.nextInt(3) == 0;
        call("kind", k, among(1, alike ? 3 : 12), among(1, alike ? 3 : 20), alike ? 100 : among(1, 500),
                dice.nextInt(3) > 0 ? -1 : among(0, 2), dice.nextInt(2) == 0 ? 0 : among(2, 6), among(1, 12));
    }

    private void text(String told) throws Exception {
        for (int at = 0; at < told.length(); at += 20) {
            int[] five = new int[5];
            for (int k = 0; k < 20 && at + k < told.length(); k++) {
                five[k / 4] |= told.charAt(at + k) << (24 - 8 * (k % 4));
            }
            call("feed", five);
        }
        call("end", told.length());
        call("spans");
    }

    private void step() throws Exception {
        switch (dice.nextInt(12)) {
            case 0: case 1: case 2:
                blows();
                break;
            case 3:
                call("lay", among(0, 5), among(1, 40), among(0, 200), dice.nextInt(2) * among(0, 50));
                break;
            case 4:
                call("pass", hours());
                break;
            case 5:
                look();
                break;
            case 6:
                if (sort > 0 || dice.nextInt(8) == 0) {
                    wood();
                } else {
                    call("cut", among(1, 3000));
                }
                break;
            case 7:
                plans();
                break;
            case 8:
                if (dice.nextInt(4) == 0) {
                    text(TEXTS[dice.nextInt(TEXTS.length)]);
                } else {
                    easyKind(among(0, 4));
                }
                break;
            default:
                anyCall();
        }
    }

    private int hours() {
        if (sort == 2 && dice.nextInt(4) == 0) {
            return Math.min(500, 5000 - second.count(0));
        }
        return dice.nextInt(12) < 6 * sort ? among(1, 250 * sort) : among(1, 4);
    }

    /** Mostly from a pot that is ready, if there is one. */
    private void blows() throws Exception {
        int gang = among(0, 3);
        int kind = among(0, 4);
        int pot = among(0, 5);
        for (int k = 0; k < 6 && second.pot(pot, 4) != 1; k++) {
            pot = dice.nextInt(20) == 0 ? among(-1, 6) : k;
        }
        int most = second.pot(pot, 4) == 1 ? 25 : 1;
        for (int many = among(1, most); many > 0; many--) {
            call("blow", gang, dice.nextInt(6) == 0 ? among(0, 4) : kind, pot);
        }
    }

    private void look() throws Exception {
        int pot = among(0, 5);
        for (int what = 0; what < 6; what++) {
            call("pot", pot, what);
        }
        int piece = dice.nextInt(Math.max(1, second.count(7) + 1));
        for (int what = 0; what < 7; what++) {
            call("piece", piece, what);
        }
        for (int gang = 0; gang < 4; gang++) {
            call("pay", gang);
        }
        for (int what = 0; what < 13; what++) {
            call("count", what);
        }
    }

    private void wood() throws Exception {
        call("cut", among(1, 3000));
        call("rate", among(0, 20));
        int now = second.count(0);
        call("cold", now, now + among(0, 9), among(1, 100));
        if (dice.nextInt(6) == 0) {
            for (int pot = 0; pot < 6; pot++) {
                call("drop", pot);
            }
            call("open", 0);
            call("go", among(0, 4));
            call("right", among(0, 4), among(0, 10000));
        }
    }

    private void plans() throws Exception {
        int most = dice.nextBoolean() ? 3 : 1000;
        for (int k = 0; k < 4; k++) {
            call("cost", among(0, 4), among(0, 9), among(0, most));
            call("way", among(0, 4), among(0, 4), among(0, most));
        }
        call("move", among(1, 10));
        for (int year = 0; year < 10; year++) {
            call("moved", year);
        }
        call("shift", among(0, 60), among(0, 60), among(0, 7));
        for (int what = 0; what < 7; what++) {
            call("shifted", what);
        }
    }

    /** Any call, its arguments as told or just beside that. */
    private void anyCall() throws Exception {
        String[] told = RANGES[dice.nextInt(RANGES.length)].split(" ");
        // a shift of any size takes the second reading long
        if (told[0].equals("shift") && dice.nextInt(20) > 0) {
            return;
        }
        int[] numbers = new int[told.length / 2];
        for (int k = 0; k < numbers.length; k++) {
            int least = Integer.parseInt(told[2 * k + 1]);
            int most = Integer.parseInt(told[2 * k + 2]);
            int[] edges = {least, most, least - 1, most + 1, Integer.MIN_VALUE, Integer.MAX_VALUE};
            numbers[k] = dice.nextInt(10) == 0 ? edges[dice.nextInt(edges.length)] : among(least, most);
        }
        if (told[0].equals("cold") && dice.nextInt(4) > 0) {
            Arrays.sort(numbers, 0, 2);
        }
        call(told[0], numbers);
    }
}
