import java.util.Arrays;

/** A glass hut in the forest, stepped hour by hour; ../shared/DOC.md tells what each call promises. */
public final class GlassHut {
    public static final int NONE = -1;

    private static final int HOURS = 5000;
    private static final int YEAR_HOURS = 500;
    private static final int YEARS = 10;
    private static final int SITES = 5;
    private static final int POTS = 6;
    private static final int KINDS = 5;
    private static final int GANGS = 4;
    private static final int BAYS = 3;
    private static final int SPANS_MOST = 8;
    private static final int GANG_MINUTES = 60;
    private static final int BATCHES_MOST = 200;
    private static final int PIECES_MOST = 1000;
    private static final int HEAP_MOST = 100000;
    private static final int WEIGHT_MOST = 50;
    private static final int SHIFT_MINUTES = 480;
    private static final int SHIFT_GLASS = 500;
    private static final int BLOW_HEAT = 900;
    private static final int COINS_MOST = 100000;

    private final Forest forest;
    private final Furnace furnace;
    private final SpanText tape;
    private final Colours colours;
    private final Pot[] pots;
    private final Kind[] kinds;
    private final Bay[] bays;
    private final int[] minutesLeft;
    private final Piece[] pieces;
    private final ShiftPlan shiftPlan;
    private final MovePlan movePlan;
    private int now;
    private int heap;
    private int laid;
    private int blown;

    public GlassHut() {
        forest = new Forest();
        furnace = new Furnace();
        tape = new SpanText();
        colours = new Colours();
        pots = new Pot[POTS];
        for (int k = 0; k < POTS; k++) {
            pots[k] = new Pot();
        }
        kinds = new Kind[KINDS];
        for (int k = 0; k < KINDS; k++) {
            kinds[k] = new Kind();
        }
        bays = new Bay[BAYS];
        for (int k = 0; k < BAYS; k++) {
            bays[k] = new Bay();
        }
        minutesLeft = new int[GANGS];
        Arrays.fill(minutesLeft, GANG_MINUTES);
        pieces = new Piece[PIECES_MOST];
        shiftPlan = new ShiftPlan();
        movePlan = new MovePlan();
    }

    // ==== I. the wood, the heat and the cold

    public int right(int site, int measures) {
        if (!within(site, 0, SITES - 1) || !within(measures, 0, 10000)) {
            return NONE;
        }
        return forest.grant(site, measures);
    }

    public int cut(int measures) {
        if (!within(measures, 1, 10000) || atEnd()) {
            return NONE;
        }
        return forest.fell(measures);
    }

    public int rate(int rate) {
        if (!within(rate, 0, 20)) {
            return NONE;
        }
        int before = furnace.perHour;
        furnace.perHour = rate;
        return before;
    }

    public int cold(int from, int to, int degrees) {
        if (!within(from, 0, HOURS - 1) || !within(to, from, HOURS - 1) || !within(degrees, 1, 100)) {
            return NONE;
        }
        return furnace.addSpell(from, to, degrees);
    }

    public boolean go(int site) {
        if (!within(site, 0, SITES - 1) || site == forest.site || atEnd() || !allEmpty()) {
            return false;
        }
        forest.leaveFor(site);
        furnace.heat = 0;
        return true;
    }

    // ==== II. the colours and the pots

    public int feed(int a, int b, int c, int d, int e) {
        if (!tape.hasRoom()) {
            return NONE;
        }
        tape.append(a);
        tape.append(b);
        tape.append(c);
        tape.append(d);
        tape.append(e);
        return tape.length;
    }

    public int end(int n) {
        if (!within(n, 0, tape.length)) {
            return NONE;
        }
        tape.length = n;
        return n;
    }

    public int spans() {
        tape.read();
        tape.length = 0;
        if (tape.fault != 0) {
            return -2 - tape.fault;
        }
        colours.take(tape);
        return colours.size;
    }

    public int lay(int pot, int sand, int ash, int broken) {
        if (!within(pot, 0, POTS - 1) || atEnd() || laid >= BATCHES_MOST || !pots[pot].isEmpty()) {
            return NONE;
        }
        if (!within(sand, 1, 200) || !within(ash, 0, 200) || !within(broken, 0, 200) || broken > heap) {
            return NONE;
        }
        heap -= broken;
        pots[pot].fill(laid, sand, ash, broken);
        pots[pot].colour = colours.firstWith(hundredths(sand, ash));
        laid++;
        return laid - 1;
    }

    public int buy(int broken) {
        if (!within(broken, 1, 5000) || heap + broken > HEAP_MOST) {
            return NONE;
        }
        heap += broken;
        return heap;
    }

    public int drop(int pot) {
        if (!within(pot, 0, POTS - 1) || pots[pot].isEmpty()) {
            return NONE;
        }
        int glass = pots[pot].glass;
        pots[pot].clear();
        heap += glass;
        return glass;
    }

    // ==== III. the kinds, gangs and bays

    public boolean kind(int k, int weight, int minutes, int price, int colour, int breaks, int cooling) {
        boolean asTold = within(k, 0, KINDS - 1)
                && within(weight, 1, WEIGHT_MOST)
                && within(minutes, 1, GANG_MINUTES)
                && within(price, 1, 10000)
                && within(colour, NONE, SPANS_MOST - 1)
                && (breaks == 0 || within(breaks, 2, 50))
                && within(cooling, 1, 40);
        if (!asTold) {
            return false;
        }
        Kind one = kinds[k];
        one.told = true;
        one.weight = weight;
        one.minutes = minutes;
        one.price = price;
        one.colour = colour;
        one.breaks = breaks;
        one.cooling = cooling;
        return true;
    }

    public int blow(int gang, int kind, int pot) {
        if (!within(gang, 0, GANGS - 1) || !within(kind, 0, KINDS - 1) || !within(pot, 0, POTS - 1)) {
            return 1;
        }
        int bay = firstBayWithRoom();
        int reason = whyNotBlown(gang, kinds[kind], pots[pot], bay);
        if (reason == 0 && bay != NONE) {
            blowPiece(gang, kind, pots[pot], bay);
        }
        return reason;
    }

    public int open(int bay) {
        if (!within(bay, 0, BAYS - 1)) {
            return NONE;
        }
        int many = bays[bay].size;
        heap += bays[bay].breakAll();
        return many;
    }

    public int pass(int hours) {
        if (!within(hours, 1, 500) || now + hours > HOURS) {
            return NONE;
        }
        for (int k = 0; k < hours; k++) {
            stepHour();
        }
        return furnace.heat;
    }

    public int pot(int k, int what) {
        if (!within(k, 0, POTS - 1)) {
            return NONE;
        }
        return pots[k].tell(what);
    }

    public int piece(int k, int what) {
        if (!within(k, 0, blown - 1)) {
            return NONE;
        }
        Piece one = pieces[k];
        return one == null ? NONE : one.tell(what);
    }

    public int pay(int gang) {
        if (!within(gang, 0, GANGS - 1)) {
            return NONE;
        }
        int sum = 0;
        for (int k = 0; k < KINDS; k++) {
            sum += storedOf(gang, k) * kinds[k].price / 100;
        }
        return sum;
    }

    // ==== IV. the shift and the move

    public int shift(int minutes, int glass, int colour) {
        if (!within(minutes, 0, SHIFT_MINUTES) || !within(glass, 0, SHIFT_GLASS)
                || !within(colour, 0, SPANS_MOST - 1)) {
            return NONE;
        }
        return shiftPlan.plan(kinds, minutes, glass, colour);
    }

    public int shifted(int what) {
        return shiftPlan.tell(what);
    }

    public int cost(int site, int year, int coins) {
        if (!within(site, 0, SITES - 1) || !within(year, 0, YEARS - 1) || !within(coins, 0, COINS_MOST)) {
            return NONE;
        }
        return exchange(movePlan.costs, year * SITES + site, coins);
    }

    public int way(int from, int to, int coins) {
        if (!within(from, 0, SITES - 1) || !within(to, 0, SITES - 1) || from == to
                || !within(coins, 0, COINS_MOST)) {
            return NONE;
        }
        return exchange(movePlan.ways, from * SITES + to, coins);
    }

    public int move(int years) {
        if (!within(years, 1, YEARS)) {
            return NONE;
        }
        return movePlan.plan(forest.site, years);
    }

    public int moved(int year) {
        if (!within(year, 0, movePlan.years - 1)) {
            return NONE;
        }
        return movePlan.chosen[year];
    }

    public int count(int what) {
        if (within(what, 10, 10 + BAYS - 1)) {
            return bays[what - 10].size;
        }
        if (within(what, 20, 20 + GANGS - 1)) {
            return minutesLeft[what - 20];
        }
        if (within(what, 30, 30 + KINDS - 1)) {
            return kinds[what - 30].blown;
        }
        switch (what) {
            case 0: return now;
            case 1: return furnace.heat;
            case 2: return forest.stack;
            case 3: return forest.site;
            case 4: return forest.felled[forest.site];
            case 5: return heap;
            case 6: return laid;
            case 7: return blown;
            case 8: return tape.length;
            case 9: return colours.size;
            default: return NONE;
        }
    }

    // ==== what the calls share

    private static boolean within(int x, int least, int most) {
        return x >= least && x <= most;
    }

    private static int exchange(int[] row, int at, int fresh) {
        if (!within(at, 0, row.length - 1)) {
            return NONE;
        }
        int before = row[at];
        row[at] = fresh;
        return before;
    }

    private static int hundredths(int sand, int ash) {
        int both = sand + ash;
        return both > 0 ? 100 * ash / both : 0;
    }

    private boolean atEnd() {
        return now >= HOURS;
    }

    private boolean allEmpty() {
        for (int k = 0; k < POTS; k++) {
            if (!pots[k].isEmpty()) {
                return false;
            }
        }
        for (int k = 0; k < BAYS; k++) {
            if (bays[k].size > 0) {
                return false;
            }
        }
        return true;
    }

    private void stepHour() {
        furnace.burn(forest.takeFromStack(furnace.perHour), now);
        for (int k = 0; k < POTS; k++) {
            pots[k].melt(furnace.heat);
        }
        for (int k = 0; k < BAYS; k++) {
            bays[k].coolHour();
        }
        now++;
        Arrays.fill(minutesLeft, GANG_MINUTES);
        if (now % YEAR_HOURS == 0) {
            forest.beginYear();
        }
    }

    private int firstBayWithRoom() {
        for (int k = 0; k < BAYS; k++) {
            if (bays[k].hasRoom()) {
                return k;
            }
        }
        return NONE;
    }

    private int whyNotBlown(int gang, Kind kind, Pot pot, int bay) {
        if (!kind.told || atEnd()) {
            return 1;
        }
        if (!pot.isReady()) {
            return 2;
        }
        if (furnace.heat < BLOW_HEAT) {
            return 3;
        }
        if (kind.colour != NONE && kind.colour != pot.colour) {
            return 4;
        }
        if (pot.glass < kind.weight) {
            return 5;
        }
        if (minutesLeft[gang] < kind.minutes) {
            return 6;
        }
        // the bay counts even for a piece that would break
        return bay == NONE || blown >= PIECES_MOST ? 7 : 0;
    }

    private void blowPiece(int gang, int kind, Pot pot, int bay) {
        Kind told = kinds[kind];
        Piece fresh = new Piece(kind, gang, pot.batch, now, told);
        minutesLeft[gang] -= told.minutes;
        pot.takeGlass(told.weight);
        told.blown++;
        if (told.latestBreaks()) {
            fresh.state = Piece.BROKE_BLOWN;
            heap += fresh.weight;
        } else {
            fresh.bay = bay;
            bays[bay].put(fresh);
        }
        pieces[blown] = fresh;
        blown++;
    }

    private int storedOf(int gang, int kind) {
        int many = 0;
        for (int k = 0; k < blown; k++) {
            Piece one = pieces[k];
            if (one != null && one.state == Piece.STORED && one.gang == gang && one.kind == kind) {
                many++;
            }
        }
        return many;
    }

    /** The rights of the sites, what was cut there in this year, and the stack beside the hut. */
    private static final class Forest {
        private static final int STACK_MOST = 20000;

        final int[] rights = new int[SITES];
        final int[] felled = new int[SITES];
        int site;
        int stack;

        int grant(int where, int measures) {
            return exchange(rights, where, measures);
        }

        int fell(int measures) {
            // a right told anew may lie below what has been cut already
            int left = Math.max(0, rights[site] - felled[site]);
            int wood = Math.min(measures, Math.min(left, STACK_MOST - stack));
            felled[site] += wood;
            stack += wood;
            return wood;
        }

        int takeFromStack(int wanted) {
            int burnt = Math.min(wanted, stack);
            stack -= burnt;
            return burnt;
        }

        void leaveFor(int where) {
            site = where;
            stack = 0;
        }

        void beginYear() {
            Arrays.fill(felled, 0);
        }
    }

    /** The heat, what is burnt in an hour, and the cold spells. */
    private static final class Furnace {
        private static final int SPELLS_MOST = 20;
        private static final int HEAT_MOST = 2000;

        final int[] from = new int[SPELLS_MOST];
        final int[] to = new int[SPELLS_MOST];
        final int[] degrees = new int[SPELLS_MOST];
        int spells;
        int perHour;
        int heat;

        int addSpell(int first, int last, int cold) {
            if (spells >= SPELLS_MOST) {
                return NONE;
            }
            from[spells] = first;
            to[spells] = last;
            degrees[spells] = cold;
            spells++;
            return spells;
        }

        void burn(int burnt, int hour) {
            int warmed = heat + 30 * burnt - heat / 20 - coldOf(hour);
            heat = Math.max(0, Math.min(HEAT_MOST, warmed));
        }

        int coldOf(int hour) {
            int sum = 0;
            for (int k = 0; k < spells; k++) {
                if (within(hour, from[k], to[k])) {
                    sum += degrees[k];
                }
            }
            return sum;
        }
    }

    /** A pot; it is EMPTY while it has no batch. */
    private static final class Pot {
        int batch = NONE;
        int glass;
        int done;
        int need;
        int colour = NONE;

        boolean isEmpty() {
            return batch == NONE;
        }

        boolean isReady() {
            return !isEmpty() && done >= need;
        }

        void fill(int number, int sand, int ash, int broken) {
            int all = sand + ash + broken;
            batch = number;
            glass = sand + ash / 2 + broken;
            done = 0;
            need = all > 0 ? (60 * sand + 10 * ash + 20 * broken) / all : 0;
        }

        void clear() {
            batch = NONE;
            glass = 0;
        }

        void melt(int heat) {
            if (isEmpty()) {
                return;
            }
            if (heat >= 1100) {
                done += heat >= 1300 ? 3 : 2;
            } else if (heat < 800 && !isReady()) {
                done = Math.max(0, done - 1);
            }
        }

        void takeGlass(int weight) {
            glass -= weight;
            if (glass <= 0) {
                clear();
            }
        }

        int tell(int what) {
            if (isEmpty()) {
                return NONE;
            }
            switch (what) {
                case 0: return batch;
                case 1: return glass;
                case 2: return done;
                case 3: return need;
                case 4: return isReady() ? 1 : 0;
                case 5: return colour;
                default: return NONE;
            }
        }
    }

    /** A kind of pieces; how many were blown outlives its being told anew. */
    private static final class Kind {
        boolean told;
        int weight;
        int minutes;
        int price;
        int colour;
        int breaks;
        int cooling;
        int blown;

        boolean latestBreaks() {
            return breaks > 0 && blown % breaks == 0;
        }

        boolean suits(int wanted) {
            return told && (colour == NONE || colour == wanted);
        }
    }

    /** A piece with all that leads it back to its pot and hour. */
    private static final class Piece {
        static final int IN_BAY = 0;
        static final int STORED = 1;
        static final int BROKE_BLOWN = 2;
        static final int BROKE_SINCE = 3;

        final int kind;
        final int gang;
        final int batch;
        final int hour;
        final int weight;
        final int cooling;
        int state = IN_BAY;
        int bay = NONE;
        int cooled;

        Piece(int kind, int gang, int batch, int hour, Kind told) {
            this.kind = kind;
            this.gang = gang;
            this.batch = batch;
            this.hour = hour;
            // kept here, as the kind may be told anew while the piece cools
            this.weight = told.weight;
            this.cooling = told.cooling;
        }

        int tell(int what) {
            switch (what) {
                case 0: return kind;
                case 1: return gang;
                case 2: return batch;
                case 3: return hour;
                case 4: return state;
                case 5: return bay;
                case 6: return cooled;
                default: return NONE;
            }
        }
    }

    /** A bay with the pieces that cool in it, the first ones of the row. */
    private static final class Bay {
        private static final int ROOM = 20;

        final Piece[] inside = new Piece[ROOM];
        int size;

        boolean hasRoom() {
            return size < ROOM;
        }

        void put(Piece fresh) {
            if (hasRoom()) {
                inside[size] = fresh;
                size++;
            }
        }

        void coolHour() {
            int kept = 0;
            for (int k = 0; k < size; k++) {
                Piece one = inside[k];
                if (one != null) {
                    one.cooled++;
                    if (one.cooled >= one.cooling) {
                        one.state = Piece.STORED;
                    } else {
                        inside[kept] = one;
                        kept++;
                    }
                }
            }
            size = kept;
        }

        /** Breaks all that is inside and answers its weight. */
        int breakAll() {
            int weight = 0;
            for (int k = 0; k < size; k++) {
                Piece one = inside[k];
                if (one != null) {
                    one.state = Piece.BROKE_SINCE;
                    weight += one.weight;
                }
            }
            size = 0;
            return weight;
        }
    }

    /** The spans by which a batch gets its colour. */
    private static final class Colours {
        final int[] from = new int[SPANS_MOST];
        final int[] to = new int[SPANS_MOST];
        int size;

        void take(SpanText text) {
            size = text.size;
            for (int k = 0; k < size; k++) {
                from[k] = text.from[k];
                to[k] = text.to[k];
            }
        }

        int firstWith(int hundredths) {
            for (int k = 0; k < size; k++) {
                if (within(hundredths, from[k], to[k])) {
                    return k;
                }
            }
            return NONE;
        }
    }

    /** The tape, and the reader of the text of spans on it. */
    private static final class SpanText {
        private static final int TAPE_MOST = 200;
        private static final int FEED = 20;
        private static final int WORD_MOST = 10;
        private static final int DIGITS_MOST = 3;
        private static final int NUMBER_MOST = 100;
        private static final int WRONG_BYTE = 0;
        private static final int WRONG_FORM = 1;
        private static final int WRONG_SPAN = 2;

        final int[] bytes = new int[TAPE_MOST];
        final int[] wordFrom = new int[SPANS_MOST];
        final int[] wordBehind = new int[SPANS_MOST];
        final int[] from = new int[SPANS_MOST];
        final int[] to = new int[SPANS_MOST];
        int length;
        int size;
        int at;
        int fault;

        boolean hasRoom() {
            return length + FEED <= TAPE_MOST;
        }

        void append(int number) {
            if (length + 4 > TAPE_MOST) {
                return;
            }
            for (int bits = 24; bits >= 0; bits -= 8) {
                bytes[length] = (number >>> bits) & 255;
                length++;
            }
        }

        /** Reads the whole text: its spans, or its first fault (0 without one). */
        void read() {
            at = 0;
            size = 0;
            fault = 0;
            skipBlanks();
            if (at >= length) {
                return;
            }
            // one round more than there may be spans: the ninth is a fault of its own
            for (int k = 0; k <= SPANS_MOST; k++) {
                if (!readSpan()) {
                    return;
                }
                skipBlanks();
                if (at >= length) {
                    return;
                }
                if (bytes[at] != ';') {
                    fail(at, WRONG_BYTE);
                    return;
                }
                at++;
                skipBlanks();
            }
        }

        boolean readSpan() {
            int word = at;
            skipLetters();
            if (at == word) {
                return fail(word, WRONG_BYTE);
            }
            if (at - word > WORD_MOST) {
                return fail(word, WRONG_FORM);
            }
            if (size >= SPANS_MOST || isTold(word, at)) {
                return fail(word, WRONG_SPAN);
            }
            int behind = at;
            skipBlanks();
            int low = readNumber();
            if (low == NONE) {
                return false;
            }
            skipBlanks();
            int highAt = at;
            int high = readNumber();
            if (high == NONE) {
                return false;
            }
            if (high < low) {
                return fail(highAt, WRONG_FORM);
            }
            keepSpan(word, behind, low, high);
            return true;
        }

        void keepSpan(int word, int behind, int low, int high) {
            wordFrom[size] = word;
            wordBehind[size] = behind;
            from[size] = low;
            to[size] = high;
            size++;
        }

        /** The number that stands here, or NONE with its fault noted. */
        int readNumber() {
            int start = at;
            int value = 0;
            for (int k = at; k < length && within(bytes[k], '0', '9'); k++) {
                // held down, as a text may have 200 digits
                value = Math.min(NUMBER_MOST + 1, 10 * value + bytes[k] - '0');
                at = k + 1;
            }
            if (at == start) {
                fail(start, WRONG_BYTE);
                return NONE;
            }
            if (at - start > DIGITS_MOST || value > NUMBER_MOST) {
                fail(start, WRONG_FORM);
                return NONE;
            }
            return value;
        }

        void skipBlanks() {
            for (int k = at; k < length && bytes[k] == ' '; k++) {
                at = k + 1;
            }
        }

        void skipLetters() {
            for (int k = at; k < length && within(bytes[k], 'a', 'z'); k++) {
                at = k + 1;
            }
        }

        boolean isTold(int word, int behind) {
            for (int k = 0; k < size; k++) {
                if (wordBehind[k] - wordFrom[k] == behind - word && sameBytes(wordFrom[k], word, behind - word)) {
                    return true;
                }
            }
            return false;
        }

        boolean sameBytes(int one, int other, int many) {
            for (int k = 0; k < many; k++) {
                if (bytes[one + k] != bytes[other + k]) {
                    return false;
                }
            }
            return true;
        }

        boolean fail(int place, int why) {
            fault = 1 + 8 * place + why;
            return false;
        }
    }

    /** Finds the best shift by the worth of all smaller amounts of minutes and glass. */
    private static final class ShiftPlan {
        private static final int WIDTH = SHIFT_MINUTES + 1;
        // a piece reaches back by its weight, so no more rows than that are kept
        private static final int RING = WEIGHT_MOST + 1;
        // minutes stay below this, so they decide only among equal prices
        private static final int PRICE_STEP = 1024;
        private static final int NUMBER_BITS = 9;
        private static final int NUMBER_MASK = 511;

        // made by the first shift that needs them: most objects never do
        long[] worth;
        long[] numbers;
        final int[] usable = new int[KINDS];
        final int[] chosen = new int[KINDS];
        int usableMany;
        boolean made;
        int minutesUsed;
        int glassUsed;

        int plan(Kind[] kinds, int minutes, int glass, int colour) {
            findUsable(kinds, colour);
            long best = 0;
            if (usableMany > 0) {
                if (worth == null || numbers == null) {
                    worth = new long[RING * WIDTH];
                    numbers = new long[RING * WIDTH];
                }
                for (int g = 0; g <= glass; g++) {
                    fillRow(kinds, g, minutes);
                }
                best = numbers[(glass % RING) * WIDTH + minutes];
            }
            made = true;
            return keep(kinds, best);
        }

        void findUsable(Kind[] kinds, int colour) {
            usableMany = 0;
            for (int k = 0; k < KINDS; k++) {
                if (kinds[k].suits(colour)) {
                    usable[usableMany] = k;
                    usableMany++;
                }
            }
        }

        void fillRow(Kind[] kinds, int glass, int minutes) {
            int row = (glass % RING) * WIDTH;
            for (int m = 0; m <= minutes; m++) {
                worth[row + m] = 0;
                numbers[row + m] = 0;
            }
            // the first of equals stays: so the least kind comes as often as it can
            for (int u = 0; u < usableMany; u++) {
                Kind one = kinds[usable[u]];
                if (one.weight <= glass) {
                    addOneMore(one, 1L << (NUMBER_BITS * usable[u]), row, minutes,
                            ((glass - one.weight) % RING) * WIDTH);
                }
            }
        }

        /** Betters a row by one more piece of a kind beside what the row further back holds. */
        void addOneMore(Kind kind, long number, int row, int minutes, int backRow) {
            long gain = (long) kind.price * PRICE_STEP - kind.minutes;
            int back = backRow;
            for (int m = kind.minutes; m <= minutes; m++) {
                long sum = worth[back] + gain;
                if (sum > worth[row + m]) {
                    worth[row + m] = sum;
                    numbers[row + m] = numbers[back] + number;
                }
                back++;
            }
        }

        int keep(Kind[] kinds, long packed) {
            int sum = 0;
            minutesUsed = 0;
            glassUsed = 0;
            for (int k = 0; k < KINDS; k++) {
                int many = (int) (packed >> (NUMBER_BITS * k)) & NUMBER_MASK;
                chosen[k] = many;
                sum += many * kinds[k].price;
                minutesUsed += many * kinds[k].minutes;
                glassUsed += many * kinds[k].weight;
            }
            return sum;
        }

        int tell(int what) {
            if (!made) {
                return NONE;
            }
            if (within(what, 0, KINDS - 1)) {
                return chosen[what];
            }
            switch (what) {
                case 5: return minutesUsed;
                case 6: return glassUsed;
                default: return NONE;
            }
        }
    }

    /** The costs of sites and ways, and the latest move found by them. */
    private static final class MovePlan {
        final int[] costs = new int[YEARS * SITES];
        final int[] ways = new int[SITES * SITES];
        // the least sum from a year on, if the hut stands on a site in it
        final int[] least = new int[YEARS * SITES];
        final int[] chosen = new int[YEARS];
        int years;

        int plan(int start, int many) {
            for (int year = many - 1; year >= 0; year--) {
                for (int site = 0; site < SITES; site++) {
                    int later = year + 1 < many ? sumBy(site, year + 1, nextSite(site, year + 1)) : 0;
                    least[year * SITES + site] = costs[year * SITES + site] + later;
                }
            }
            years = many;
            int site = start;
            for (int year = 0; year < many; year++) {
                site = nextSite(site, year);
                chosen[year] = site;
            }
            return sumBy(start, 0, chosen[0]);
        }

        /** The least site of those that a year is best spent on, coming from a site. */
        int nextSite(int from, int year) {
            int best = 0;
            for (int to = 1; to < SITES; to++) {
                if (sumBy(from, year, to) < sumBy(from, year, best)) {
                    best = to;
                }
            }
            return best;
        }

        int sumBy(int from, int year, int to) {
            return ways[from * SITES + to] + least[year * SITES + to];
        }
    }
}
