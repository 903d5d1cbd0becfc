import java.util.Arrays;

/**
 * Pairs in procession: two of each number walk in one row, with as many between them as THE TEXT tells.
 * ../shared/DOC.md says what each call answers.
 */
public final class Procession {
    public static final int NONE = -1;

    private static final int OTHERS = -2;
    private static final int NUMBERS = 8;
    private static final int LAST_SET = 255;
    private static final int MOST_PLACES = 16;
    private static final int MOST_BETWEEN = 14;
    private static final int MOST_DAYS = 60;
    private static final int LAST_DAY = 9999;
    private static final int MOST_TEXTS = 4;
    private static final int TAPE_BYTES = 300;
    private static final int LAST_SEED = 9999;
    private static final int MOST_YEARS = 40;
    private static final int THREES_NUMBERS = 5;
    private static final int GAME_NUMBERS = 5;
    private static final int GAME_PLACES = 10;

    private final Tape tape = new Tape();
    private final Reader reader = new Reader();
    private final Script[] texts = new Script[MOST_TEXTS];
    private final Row row = new Row();
    private final Row spare = new Row();
    private final Steps steps = new Steps();
    private final Sayings sayings = new Sayings();
    private final Finder finder = new Finder();
    // A new image is that of a new object.
    private final Image kept = new Image();
    private final int[] stack = new int[TAPE_BYTES];
    private int textCount = 0;
    private int ruling = NONE;

    public Procession() {
    }

    // ---- the tape and its texts

    public int feed(int a, int b, int c, int d, int e) {
        if (!tape.hasRoom(20)) {
            return NONE;
        }
        tape.put(a);
        tape.put(b);
        tape.put(c);
        tape.put(d);
        tape.put(e);
        return tape.size;
    }

    public int end(int n) {
        if (n < 0 || n > tape.size) {
            return NONE;
        }
        tape.size = n;
        return n;
    }

    public int text() {
        if (textCount >= MOST_TEXTS) {
            return NONE;
        }
        Script script = reader.read(tape);
        tape.size = 0;
        if (script == null) {
            return NONE;
        }
        texts[textCount] = script;
        textCount++;
        return textCount - 1;
    }

    public int fault(int what) {
        if (what == 0) {
            return reader.fault;
        }
        return what == 1 ? reader.faultPlace : NONE;
    }

    public boolean by(int text) {
        if (text != NONE && scriptOf(text) == null) {
            return false;
        }
        ruling = text;
        return true;
    }

    // ---- what is done by hand

    public boolean length(int places) {
        if (places < 1 || places > MOST_PLACES || places == row.places() || row.taken() >>> places != 0) {
            return false;
        }
        steps.keep(row);
        row.stretch(places);
        return true;
    }

    public int join(int number, int place) {
        int second = secondPlace(number, place);
        if (second != NONE) {
            steps.keep(row);
            row.enter(number, place, second);
        }
        return second;
    }

    public boolean leave(int number) {
        if (!row.holds(number)) {
            return false;
        }
        steps.keep(row);
        row.depart(number, Row.WENT);
        return true;
    }

    public int turn() {
        int walking = row.walking();
        if (walking == 0) {
            return NONE;
        }
        steps.keep(row);
        row.reverse();
        return walking;
    }

    public boolean shift(int by) {
        if (by == 0 || by <= -MOST_PLACES || by >= MOST_PLACES || !row.canMove(by)) {
            return false;
        }
        steps.keep(row);
        row.move(by);
        return true;
    }

    public int day(int n) {
        if (n < 1 || n > MOST_DAYS || row.date() + n > LAST_DAY) {
            return NONE;
        }
        int before = row.walking();
        passDays(n);
        return before - row.walking();
    }

    public int played(int text) {
        Script script = scriptOf(text);
        if (script == null) {
            return OTHERS;
        }
        for (int i = 0; i < script.size; i++) {
            if (!carriedOut(script.kinds[i], script.ones[i], script.others[i])) {
                return i;
            }
        }
        return NONE;
    }

    public int years(int seed, int n) {
        if (seed < 0 || seed > LAST_SEED || n < 1 || n > MOST_YEARS) {
            return NONE;
        }
        steps.keep(row);
        row.sow(seed * 2 + Row.FIRST_X);
        for (int i = 0; i < n; i++) {
            happen(row.draw());
        }
        return row.date();
    }

    public int undo() {
        return steps.takeBack(row) ? steps.count : NONE;
    }

    // ---- what is asked of the row as it is

    public int of(int number, int what) {
        if (!isNumber(number)) {
            return OTHERS;
        }
        switch (what) {
            case 0:
                return row.first(number);
            case 1:
                return row.second(number);
            case 2:
                return row.since(number);
            case 3:
                return betweenBy(scriptOf(ruling), number);
            case 4:
                return tiresOf(number);
            default:
                return OTHERS;
        }
    }

    public int at(int place) {
        return place < 0 || place >= row.places() ? NONE : row.who(place);
    }

    public int is(int what) {
        switch (what) {
            case 0:
                return row.date();
            case 1:
                return row.drawn();
            case 2:
                return row.places();
            case 3:
                return row.standing();
            case 4:
                return row.vacant();
            default:
                return OTHERS;
        }
    }

    public int book(int i, int what) {
        if (i == NONE) {
            return row.lines();
        }
        if (i < 0 || i >= row.lines()) {
            return OTHERS;
        }
        int line = row.line(i);
        switch (what) {
            case 0:
                return Row.lineDate(line);
            case 1:
                return Row.lineNumber(line);
            case 2:
                return Row.lineKind(line);
            case 3:
                return Row.linePlace(line);
            default:
                return OTHERS;
        }
    }

    public int eldest() {
        int found = NONE;
        for (int number = 1; number <= NUMBERS; number++) {
            if (row.holds(number) && (found == NONE || row.since(number) > row.since(found))) {
                found = number;
            }
        }
        return found;
    }

    public int widest() {
        int found = NONE;
        for (int number = 1; number <= NUMBERS; number++) {
            if (row.holds(number) && (found == NONE || row.span(number) > row.span(found))) {
                found = number;
            }
        }
        return found;
    }

    public boolean mirror() {
        for (int number = 1; number <= NUMBERS; number++) {
            if (row.holds(number) && row.first(number) + row.second(number) != row.places() - 1) {
                return false;
            }
        }
        return true;
    }

    public int crossed() {
        int found = 0;
        for (int one = 1; one <= NUMBERS; one++) {
            for (int other = one + 1; other <= NUMBERS; other++) {
                if (row.inside(one, other) == 1) {
                    found++;
                }
            }
        }
        return found;
    }

    public int nested() {
        int found = 0;
        for (int one = 1; one <= NUMBERS; one++) {
            for (int other = one + 1; other <= NUMBERS; other++) {
                if (row.inside(one, other) == 2 || row.inside(other, one) == 2) {
                    found++;
                }
            }
        }
        return found;
    }

    public int spread() {
        int taken = row.taken();
        if (taken == 0) {
            return 0;
        }
        return 32 - Integer.numberOfLeadingZeros(taken) - Integer.numberOfTrailingZeros(taken);
    }

    public int room() {
        int vacant = row.vacant();
        int longest = 0;
        int now = 0;
        for (int place = 0; place < row.places(); place++) {
            now = (vacant >>> place & 1) != 0 ? now + 1 : 0;
            longest = Math.max(longest, now);
        }
        return longest;
    }

    public int ledger(int what) {
        if (what < Row.CAME || what > Row.TIRED) {
            return OTHERS;
        }
        int found = 0;
        for (int i = 0; i < row.lines(); i++) {
            if (Row.lineKind(row.line(i)) == what) {
                found++;
            }
        }
        return found;
    }

    // ---- what comes and what could be

    public int foretold(int n) {
        if (n < 1 || n > MOST_DAYS) {
            return NONE;
        }
        spare.become(row);
        for (int i = 0; i < n && row.date() < LAST_DAY; i++) {
            passDay();
        }
        int standing = row.standing();
        row.become(spare);
        return standing;
    }

    public int can(int number) {
        if (!isNumber(number)) {
            return NONE;
        }
        if (row.holds(number)) {
            return 0;
        }
        int vacant = row.vacant();
        return vacant & vacant >>> betweenBy(scriptOf(ruling), number) + 1;
    }

    public long rows(int set, int gaps) {
        int places = rowPlaces(set, gaps);
        if (places == NONE) {
            return NONE;
        }
        measure();
        return finder.count(set, allOf(places));
    }

    public int row(int set, int gaps, int place) {
        return rowAt(set, gaps, 0, place);
    }

    public int rowAt(int set, int gaps, int i, int place) {
        int places = rowPlaces(set, gaps);
        if (i < 0 || place < 0 || place >= places) {
            return NONE;
        }
        measure();
        return finder.whoIn(set, allOf(places), i, place);
    }

    public long often(int set, int gaps, int number, int place) {
        int places = rowPlaces(set, gaps);
        if (place < 0 || place >= places || !isNumber(number) || (set & bitOf(number)) == 0) {
            return NONE;
        }
        measure();
        int free = allOf(places);
        return finder.countWith(set, free, number, place)
                + finder.countWith(set, free, number, place - finder.apart(number));
    }

    public int pinned(int set, int gaps) {
        int places = rowPlaces(set, gaps);
        if (places == NONE) {
            return NONE;
        }
        measure();
        return finder.settled(set, allOf(places));
    }

    public int fewest(int set) {
        if (!isSet(set)) {
            return NONE;
        }
        measure();
        int own = 2 * Integer.bitCount(set);
        for (int places = own; places <= MOST_PLACES; places++) {
            if (finder.fits(set, allOf(places))) {
                return places - own;
            }
        }
        return NONE;
    }

    public long kinds(int set, int gaps) {
        int places = rowPlaces(set, gaps);
        if (places == NONE) {
            return NONE;
        }
        measure();
        // At most one row is its own turned one (each number in the middle); the others come in twos.
        return (finder.count(set, allOf(places)) + 1) / 2;
    }

    public long rounds(int set) {
        if (!isSet(set)) {
            return NONE;
        }
        measure();
        return finder.countRound(set);
    }

    public long threes(int set) {
        if (!isSet(set) || Integer.bitCount(set) > THREES_NUMBERS) {
            return NONE;
        }
        measure();
        return finder.countThrees(set, allOf(3 * Integer.bitCount(set)));
    }

    public long ways(int set) {
        if (!isSet(set)) {
            return NONE;
        }
        measure();
        return finder.count(set & ~row.standing(), row.vacant());
    }

    public int fill(int set, int number) {
        if (!isSet(set) || !isNumber(number)) {
            return NONE;
        }
        measure();
        int joining = set & ~row.standing();
        if (!finder.fits(joining, row.vacant())) {
            return NONE;
        }
        return row.holds(number) ? row.first(number) : finder.lowestFirst(joining, row.vacant(), number);
    }

    public int forced(int set) {
        if (!isSet(set)) {
            return NONE;
        }
        measure();
        return finder.settled(set & ~row.standing(), row.vacant());
    }

    public int stay(int set) {
        if (!isSet(set)) {
            return NONE;
        }
        measure();
        int here = set & row.standing();
        int all = allOf(row.places());
        for (int many = Integer.bitCount(here); many >= 0; many--) {
            for (int staying = 0; staying <= here; staying++) {
                if ((staying & ~here) == 0 && Integer.bitCount(staying) == many
                        && finder.fits(set & ~staying, all & ~row.placesOf(staying))) {
                    return staying;
                }
            }
        }
        return NONE;
    }

    public long likely(int set, boolean low) {
        if (!isSet(set)) {
            return NONE;
        }
        measure();
        int places = 2 * Integer.bitCount(set);
        long good = finder.count(set, allOf(places));
        // A number that has no first place at all comes here too.
        if (good == 0) {
            return low ? 1 : 0;
        }
        long all = finder.choices(set, places);
        long common = commonDivisor(all, good);
        return common == 0 ? NONE : (low ? all : good) / common;
    }

    public int most(int places, boolean many) {
        if (places < 1 || places > MOST_PLACES) {
            return NONE;
        }
        measure();
        int set = finder.largest(allOf(places));
        return many ? Integer.bitCount(set) : set;
    }

    public int game(int places, int set) {
        if (!isGame(places, set)) {
            return NONE;
        }
        measure();
        return finder.wins(set, allOf(places)) ? 1 : 0;
    }

    public int play(int places, int set) {
        if (!isGame(places, set)) {
            return NONE;
        }
        measure();
        return finder.winningPlay(set, allOf(places));
    }

    // ---- whose law it was

    public int said(int number, int between) {
        if (number == NONE) {
            sayings.count = 0;
            return 0;
        }
        if (!isNumber(number) || between < 0 || between > MOST_BETWEEN || !sayings.add(number, between)) {
            return OTHERS;
        }
        return sayings.count;
    }

    public int whose() {
        int found = 0;
        for (int text = 0; text < textCount; text++) {
            if (saysAll(scriptOf(text))) {
                found |= 1 << text;
            }
        }
        return found;
    }

    // ---- the image

    public int image() {
        kept.take(row, steps, sayings, textCount, ruling);
        return row.date();
    }

    public int back() {
        kept.give(row, steps, sayings);
        // Texts come one behind the other, so the first ones are still those of the image.
        textCount = kept.textCount;
        ruling = kept.ruling;
        return row.date();
    }

    public int about(int what) {
        switch (what) {
            case 0:
                return textCount;
            case 1:
                return ruling;
            case 2:
                return steps.count;
            case 3:
                return sayings.count;
            case 4:
                return tape.size;
            default:
                return OTHERS;
        }
    }

    // ---- helpers: arguments

    private static boolean isNumber(int number) {
        return number >= 1 && number <= NUMBERS;
    }

    private static boolean isSet(int set) {
        return set >= 0 && set <= LAST_SET;
    }

    private static boolean isGame(int places, int set) {
        return places >= 1 && places <= GAME_PLACES && isSet(set) && Integer.bitCount(set) <= GAME_NUMBERS;
    }

    /** A text by its number; null, if there is none such. */
    private Script scriptOf(int text) {
        return text >= 0 && text < textCount && text < MOST_TEXTS ? texts[text] : null;
    }

    /** The places of a row of a set with so many gaps; NONE, if there can't be such a row. */
    private static int rowPlaces(int set, int gaps) {
        if (!isSet(set) || gaps < 0 || gaps > MOST_PLACES) {
            return NONE;
        }
        int places = 2 * Integer.bitCount(set) + gaps;
        return places > MOST_PLACES ? NONE : places;
    }

    private static int allOf(int places) {
        return (1 << places) - 1;
    }

    private static int bitOf(int number) {
        return 1 << number - 1;
    }

    private static int within(long value, int low, int high) {
        return value < low ? low : value > high ? high : (int) value;
    }

    private static long commonDivisor(long one, long other) {
        long high = one;
        long low = other;
        for (int i = 0; i < 200 && low != 0; i++) {
            long rest = high % low;
            high = low;
            low = rest;
        }
        return high;
    }

    // ---- helpers: laws

    private int betweenBy(Script script, int number) {
        if (script == null || script.between == null) {
            return number;
        }
        return within(script.between.worth(row, number, stack), 0, MOST_BETWEEN);
    }

    private int tiresOf(int number) {
        Script script = scriptOf(ruling);
        if (script == null || script.tires == null) {
            return 1;
        }
        return within(script.tires.worth(row, number, stack), 0, 10);
    }

    private void measure() {
        Script script = scriptOf(ruling);
        for (int number = 1; number <= NUMBERS; number++) {
            finder.learn(number, betweenBy(script, number));
        }
        finder.settle();
    }

    private boolean saysAll(Script script) {
        for (int i = 0; i < sayings.count; i++) {
            if (betweenBy(script, sayings.number(i)) != sayings.between(i)) {
                return false;
            }
        }
        return true;
    }

    // ---- helpers: what is done

    /** Where the second of a number would stand that joins at a place; NONE, if it can't. */
    private int secondPlace(int number, int place) {
        if (!isNumber(number) || row.holds(number) || place < 0 || place >= row.places()) {
            return NONE;
        }
        int second = place + betweenBy(scriptOf(ruling), number) + 1;
        if (second >= row.places() || (row.taken() & (1 << place | 1 << second)) != 0) {
            return NONE;
        }
        return second;
    }

    /** Days pass, each a step, so long as the calendar has any: whether all of them did. */
    private boolean passDays(int n) {
        for (int i = 0; i < n; i++) {
            if (row.date() >= LAST_DAY) {
                return false;
            }
            steps.keep(row);
            passDay();
        }
        return true;
    }

    private void passDay() {
        for (int number = 1; number <= NUMBERS; number++) {
            if (row.holds(number)) {
                row.age(number);
                if (row.draw() % 10 < tiresOf(number)) {
                    row.depart(number, Row.TIRED);
                }
            }
        }
        row.dawn();
    }

    private boolean carriedOut(int kind, int one, int other) {
        switch (kind) {
            case Scanner.LONG:
                return length(one);
            case Scanner.JOIN:
                return join(one, other) != NONE;
            case Scanner.LEAVE:
                return leave(one);
            case Scanner.TURN:
                return turn() != NONE;
            case Scanner.DAY:
                return passDays(one);
            default:
                return true;
        }
    }

    /** One of the draws of YEARS, which is no step of its own. */
    private void happen(int x) {
        int number = 1 + x / 6 % NUMBERS;
        int place = x % MOST_PLACES;
        switch (x % 6) {
            case 0:
            case 1:
                int second = secondPlace(number, place);
                if (second != NONE) {
                    row.enter(number, place, second);
                }
                break;
            case 2:
                if (x % 4 == 0 && row.holds(number)) {
                    row.depart(number, Row.WENT);
                }
                break;
            case 3:
                if (x % 4 == 1) {
                    row.reverse();
                }
                break;
            default:
                if (row.date() < LAST_DAY) {
                    passDay();
                }
                break;
        }
    }

    /** The bytes that have come and are no text yet. */
    private static final class Tape {
        final byte[] bytes = new byte[TAPE_BYTES];
        int size = 0;

        boolean hasRoom(int more) {
            return size + more <= TAPE_BYTES;
        }

        void put(int word) {
            for (int down = 24; down >= 0 && size < TAPE_BYTES; down -= 8) {
                bytes[size] = (byte) (word >>> down);
                size++;
            }
        }

        int byteAt(int i) {
            return i >= 0 && i < size ? bytes[i] & 255 : 0;
        }
    }

    /**
     * All that a step can change. It lies in one array of numbers, so that steps and the image
     * keep it by copying that array.
     */
    private static final class Row {
        static final int SIZE = 55;
        static final int FIRST_X = 443;
        static final int CAME = 0;
        static final int WENT = 1;
        static final int TIRED = 2;
        private static final int PLACES = 0;
        private static final int DATE = 1;
        private static final int DRAWN = 2;
        private static final int STANDING = 3;
        private static final int TAKEN = 4;
        private static final int LINES = 5;
        // Behind each of these come the numbers 1 to 8, so the first cell is one further on.
        private static final int FIRST = 5;
        private static final int SECOND = 13;
        private static final int SINCE = 21;
        private static final int BOOK = 30;
        private static final int MOST_LINES = 25;
        private static final int MOST_SINCE = 99;

        private final int[] cells = new int[SIZE];

        Row() {
            cells[PLACES] = 8;
            cells[DRAWN] = FIRST_X;
            for (int number = 1; number <= NUMBERS; number++) {
                cells[FIRST + number] = NONE;
                cells[SECOND + number] = NONE;
            }
        }

        void become(Row other) {
            System.arraycopy(other.cells, 0, cells, 0, SIZE);
        }

        void copyTo(int[] target, int from) {
            if (from >= 0 && from <= target.length - SIZE) {
                System.arraycopy(cells, 0, target, from, SIZE);
            }
        }

        void copyFrom(int[] source, int from) {
            if (from >= 0 && from <= source.length - SIZE) {
                System.arraycopy(source, from, cells, 0, SIZE);
            }
        }

        int places() {
            return cells[PLACES];
        }

        int date() {
            return cells[DATE];
        }

        int drawn() {
            return cells[DRAWN];
        }

        int standing() {
            return cells[STANDING];
        }

        int walking() {
            return Integer.bitCount(cells[STANDING]);
        }

        int taken() {
            return cells[TAKEN];
        }

        int vacant() {
            return allOf(cells[PLACES]) & ~cells[TAKEN];
        }

        boolean isVacant(int place) {
            return place >= 0 && place < cells[PLACES] && (cells[TAKEN] >>> place & 1) == 0;
        }

        boolean holds(int number) {
            return number >= 1 && number <= NUMBERS && cells[FIRST + number] >= 0;
        }

        int first(int number) {
            return number >= 1 && number <= NUMBERS ? cells[FIRST + number] : NONE;
        }

        int second(int number) {
            return number >= 1 && number <= NUMBERS ? cells[SECOND + number] : NONE;
        }

        int since(int number) {
            return number >= 1 && number <= NUMBERS ? cells[SINCE + number] : 0;
        }

        int span(int number) {
            return second(number) - first(number);
        }

        private int pairOf(int number) {
            return holds(number) ? 1 << cells[FIRST + number] | 1 << cells[SECOND + number] : 0;
        }

        /** The places that those of a set take that stand. */
        int placesOf(int set) {
            int found = 0;
            for (int number = 1; number <= NUMBERS; number++) {
                if ((set & bitOf(number)) != 0) {
                    found |= pairOf(number);
                }
            }
            return found;
        }

        int who(int place) {
            for (int number = 1; number <= NUMBERS; number++) {
                if (holds(number) && (first(number) == place || second(number) == place)) {
                    return number;
                }
            }
            return 0;
        }

        /** How many places of the inner one lie between the two of the outer one. */
        int inside(int outer, int inner) {
            if (!holds(outer) || !holds(inner)) {
                return 0;
            }
            return (parts(outer, first(inner)) ? 1 : 0) + (parts(outer, second(inner)) ? 1 : 0);
        }

        private boolean parts(int number, int place) {
            return first(number) < place && place < second(number);
        }

        void stretch(int places) {
            cells[PLACES] = places;
        }

        void enter(int number, int place, int second) {
            if (!isNumber(number) || holds(number)) {
                return;
            }
            cells[FIRST + number] = place;
            cells[SECOND + number] = second;
            cells[STANDING] |= bitOf(number);
            cells[TAKEN] |= pairOf(number);
            write(number, CAME, place);
        }

        void depart(int number, int kind) {
            if (!holds(number)) {
                return;
            }
            write(number, kind, first(number));
            cells[STANDING] &= ~bitOf(number);
            cells[TAKEN] &= ~pairOf(number);
            cells[FIRST + number] = NONE;
            cells[SECOND + number] = NONE;
            cells[SINCE + number] = 0;
        }

        void reverse() {
            int last = places() - 1;
            for (int number = 1; number <= NUMBERS; number++) {
                if (holds(number)) {
                    int first = cells[FIRST + number];
                    cells[FIRST + number] = last - cells[SECOND + number];
                    cells[SECOND + number] = last - first;
                }
            }
            cells[TAKEN] = placesOf(LAST_SET);
        }

        boolean canMove(int by) {
            for (int number = 1; number <= NUMBERS; number++) {
                if (holds(number) && (first(number) + by < 0 || second(number) + by >= places())) {
                    return false;
                }
            }
            return cells[STANDING] != 0;
        }

        void move(int by) {
            for (int number = 1; number <= NUMBERS; number++) {
                if (holds(number)) {
                    cells[FIRST + number] += by;
                    cells[SECOND + number] += by;
                }
            }
            cells[TAKEN] = placesOf(LAST_SET);
        }

        void age(int number) {
            if (holds(number) && cells[SINCE + number] < MOST_SINCE) {
                cells[SINCE + number]++;
            }
        }

        void dawn() {
            cells[DATE]++;
        }

        void sow(int x) {
            cells[DRAWN] = x;
        }

        /** X as it was; it is anew then. */
        int draw() {
            int x = cells[DRAWN];
            cells[DRAWN] = (x * 701 + 571) % 31019;
            return x;
        }

        // ---- the book, the eldest line first

        int lines() {
            return cells[LINES];
        }

        int line(int i) {
            return i >= 0 && i < MOST_LINES ? cells[BOOK + i] : 0;
        }

        /** Who joined latest by the book; 0, if no such line is in it. */
        int latest() {
            for (int i = MOST_LINES - 1; i >= 0; i--) {
                int line = cells[BOOK + i];
                if (i < cells[LINES] && (line >>> 4 & 3) == CAME) {
                    return line >>> 6 & 15;
                }
            }
            return 0;
        }

        private void write(int number, int kind, int place) {
            int count = cells[LINES];
            if (count >= MOST_LINES) {
                System.arraycopy(cells, BOOK + 1, cells, BOOK, MOST_LINES - 1);
                count = MOST_LINES - 1;
            }
            if (count >= 0) {
                cells[BOOK + count] = cells[DATE] << 10 | number << 6 | kind << 4 | place;
                cells[LINES] = count + 1;
            }
        }

        static int lineDate(int line) {
            return line >>> 10;
        }

        static int lineNumber(int line) {
            return line >>> 6 & 15;
        }

        static int lineKind(int line) {
            return line >>> 4 & 3;
        }

        static int linePlace(int line) {
            return line & 15;
        }
    }

    /** The rows ahead of the latest steps, in a ring. */
    private static final class Steps {
        private static final int MOST = 30;

        private final int[] past = new int[MOST * Row.SIZE];
        private int next = 0;
        int count = 0;

        void keep(Row row) {
            row.copyTo(past, next * Row.SIZE);
            next = (next + 1) % MOST;
            count = Math.min(MOST, count + 1);
        }

        boolean takeBack(Row row) {
            if (count == 0) {
                return false;
            }
            next = (next + MOST - 1) % MOST;
            count--;
            row.copyFrom(past, next * Row.SIZE);
            return true;
        }

        void become(Steps other) {
            System.arraycopy(other.past, 0, past, 0, MOST * Row.SIZE);
            next = other.next;
            count = other.count;
        }
    }

    /** What was told of whose law it was. */
    private static final class Sayings {
        private static final int MOST = 8;

        private final int[] lines = new int[MOST];
        int count = 0;

        boolean add(int number, int between) {
            if (count < 0 || count >= MOST) {
                return false;
            }
            lines[count] = number << 4 | between;
            count++;
            return true;
        }

        int number(int i) {
            return i >= 0 && i < MOST ? lines[i] >>> 4 : 0;
        }

        int between(int i) {
            return i >= 0 && i < MOST ? lines[i] & 15 : 0;
        }

        void become(Sayings other) {
            System.arraycopy(other.lines, 0, lines, 0, MOST);
            count = other.count;
        }
    }

    /** All as it was once, but the tape and the latest fault. */
    private static final class Image {
        private final Row row = new Row();
        private final Steps steps = new Steps();
        private final Sayings sayings = new Sayings();
        int textCount = 0;
        int ruling = NONE;

        void take(Row nowRow, Steps nowSteps, Sayings nowSayings, int nowTexts, int nowRuling) {
            row.become(nowRow);
            steps.become(nowSteps);
            sayings.become(nowSayings);
            textCount = nowTexts;
            ruling = nowRuling;
        }

        void give(Row nowRow, Steps nowSteps, Sayings nowSayings) {
            nowRow.become(row);
            nowSteps.become(steps);
            nowSayings.become(sayings);
        }
    }

    /** A text without a fault. */
    private static final class Script {
        final int size;
        final int[] kinds;
        final int[] ones;
        final int[] others;
        final Law between;
        final Law tires;

        Script(int[] kinds, int[] ones, int[] others, Law between, Law tires) {
            this.size = Math.min(kinds.length, Math.min(ones.length, others.length));
            this.kinds = kinds;
            this.ones = ones;
            this.others = others;
            this.between = between;
            this.tires = tires;
        }
    }

    /** A SUM, written so that each sign stands behind what it takes. */
    private static final class Law {
        static final int PICK = 50;
        static final int NEGATE = 51;
        // A plain number is this and itself.
        static final int PLAIN = 100;
        private static final int HIGHEST = 1000000;

        private final int[] code;

        Law(int[] code) {
            this.code = code;
        }

        int worth(Row row, int number, int[] stack) {
            int top = 0;
            for (int i = 0; i < code.length && top < stack.length; i++) {
                int sign = code[i];
                if (sign >= PLAIN) {
                    stack[top] = sign - PLAIN;
                    top++;
                } else if (Scanner.isName(sign)) {
                    stack[top] = named(sign, row, number);
                    top++;
                } else if (sign == PICK && top >= 3) {
                    stack[top - 3] = stack[top - 3] != 0 ? stack[top - 2] : stack[top - 1];
                    top -= 2;
                } else if (takesOne(sign) && top >= 1) {
                    stack[top - 1] = ofOne(sign, stack[top - 1], row);
                } else if (top >= 2) {
                    stack[top - 2] = ofTwo(sign, stack[top - 2], stack[top - 1]);
                    top--;
                }
            }
            return top >= 1 ? stack[top - 1] : 0;
        }

        private static int named(int sign, Row row, int number) {
            switch (sign) {
                case Scanner.DAY:
                    return row.date();
                case Scanner.NUMBER_NAME:
                    return number;
                case Scanner.LONG:
                    return row.places();
                case Scanner.WALK:
                    return Integer.bitCount(row.standing());
                case Scanner.SINCE:
                    return row.since(number);
                case Scanner.FIRST:
                    return row.first(number);
                default:
                    return row.latest();
            }
        }

        private static boolean takesOne(int sign) {
            return sign == NEGATE || sign == Scanner.NOT || sign == Scanner.STANDS || sign == Scanner.FREE;
        }

        private static int ofOne(int sign, int value, Row row) {
            switch (sign) {
                case NEGATE:
                    return -value;
                case Scanner.NOT:
                    return value == 0 ? 1 : 0;
                case Scanner.STANDS:
                    return row.holds(value) ? 1 : 0;
                default:
                    return row.isVacant(value) ? 1 : 0;
            }
        }

        private static int ofTwo(int sign, int left, int right) {
            switch (sign) {
                case Scanner.PLUS:
                    return within(left + right, -HIGHEST, HIGHEST);
                case Scanner.MINUS:
                    return within(left - right, -HIGHEST, HIGHEST);
                case Scanner.TIMES:
                    return within((long) left * right, -HIGHEST, HIGHEST);
                case Scanner.BY:
                    return right == 0 ? 0 : left / right;
                default:
                    return holdsOfTwo(sign, left, right) ? 1 : 0;
            }
        }

        private static boolean holdsOfTwo(int sign, int left, int right) {
            switch (sign) {
                case Scanner.LESS:
                    return left < right;
                case Scanner.LESS_OR_LIKE:
                    return left <= right;
                case Scanner.MORE:
                    return left > right;
                case Scanner.MORE_OR_LIKE:
                    return left >= right;
                case Scanner.LIKE:
                    return left == right;
                case Scanner.UNLIKE:
                    return left != right;
                case Scanner.AND:
                    return left != 0 && right != 0;
                default:
                    return left != 0 || right != 0;
            }
        }
    }

    /** Cuts a tape into its tokens, one after the other. */
    private static final class Scanner {
        static final int NO_TOKEN = 0;
        static final int END_OF_TAPE = 1;
        static final int NUMBER = 2;
        // The words, numbered in the order in which they stand in WORDS.
        static final int BETWEEN = 3;
        static final int TIRES = 4;
        static final int JOIN = 5;
        static final int LEAVE = 6;
        static final int TURN = 7;
        static final int DAY = 8;
        static final int LONG = 9;
        static final int NUMBER_NAME = 10;
        static final int WALK = 11;
        static final int SINCE = 12;
        static final int FIRST = 13;
        static final int LAST = 14;
        static final int STANDS = 15;
        static final int FREE = 16;
        static final int IF = 17;
        static final int THEN = 18;
        static final int ELSE = 19;
        static final int END = 20;
        static final int OR = 21;
        static final int AND = 22;
        static final int NOT = 23;
        static final int AT = 24;
        private static final String WORDS =
                "between tires join leave turn day long number walk since first last stands free if then else end or and not at ";
        // The signs of one byte, numbered in the order in which they stand in SIGNS.
        static final int LESS = 30;
        static final int MORE = 31;
        static final int LIKE = 32;
        static final int UNLIKE = 33;
        static final int PLUS = 34;
        static final int MINUS = 35;
        static final int TIMES = 36;
        static final int BY = 37;
        static final int OPEN = 38;
        static final int CLOSE = 39;
        static final int STOP = 40;
        private static final String SIGNS = "<>=#+-*/();";
        static final int LESS_OR_LIKE = 41;
        static final int MORE_OR_LIKE = 42;
        static final int HIGHEST_NUMBER = 9999;

        // Each token has a byte at least, and behind them is the end.
        private static final int MOST_TOKENS = TAPE_BYTES + 1;

        private final int[] kinds = new int[MOST_TOKENS];
        private final int[] froms = new int[MOST_TOKENS];
        private final int[] values = new int[MOST_TOKENS];
        private int count = 0;
        private int now = 0;

        static boolean isName(int kind) {
            return kind >= DAY && kind <= LAST;
        }

        static boolean isRelation(int kind) {
            return kind >= LESS && kind <= UNLIKE || kind == LESS_OR_LIKE || kind == MORE_OR_LIKE;
        }

        /** The kind of the token that is come to. */
        int kind() {
            return now >= 0 && now < MOST_TOKENS ? kinds[now] : END_OF_TAPE;
        }

        /** Its first byte. */
        int from() {
            return now >= 0 && now < MOST_TOKENS ? froms[now] : 0;
        }

        /** Of a number what it tells. */
        int value() {
            return now >= 0 && now < MOST_TOKENS ? values[now] : 0;
        }

        void advance() {
            if (now < count) {
                now++;
            }
        }

        /** Cuts the tape; the end (at the length) counts as a token behind the last. */
        void cut(Tape tape) {
            now = 0;
            count = 0;
            int at = afterBlanks(tape, 0);
            for (int i = 0; i < TAPE_BYTES && at < tape.size; i++) {
                at = afterBlanks(tape, take(tape, at));
            }
            note(END_OF_TAPE, tape.size, 0);
            count--;
        }

        private void note(int kind, int from, int value) {
            if (count >= 0 && count < MOST_TOKENS) {
                kinds[count] = kind;
                froms[count] = from;
                values[count] = value;
                count++;
            }
        }

        private static int afterBlanks(Tape tape, int from) {
            int at = from;
            for (int i = 0; i < TAPE_BYTES && isBlank(tape.byteAt(at)); i++) {
                at++;
            }
            return at;
        }

        /** Notes the token that begins at a byte: where it ends. */
        private int take(Tape tape, int from) {
            int sign = tape.byteAt(from);
            if (isDigit(sign)) {
                return takeNumber(tape, from);
            }
            if (isLetter(sign)) {
                return takeWord(tape, from);
            }
            return takeSign(tape, from);
        }

        private static boolean isBlank(int sign) {
            return sign == ' ' || sign == '\n';
        }

        private static boolean isDigit(int sign) {
            return sign >= '0' && sign <= '9';
        }

        private static boolean isLetter(int sign) {
            return sign >= 'a' && sign <= 'z' || sign >= 'A' && sign <= 'Z';
        }

        private int takeNumber(Tape tape, int from) {
            int value = 0;
            int at = from;
            for (int i = 0; i < TAPE_BYTES && isDigit(tape.byteAt(at)); i++) {
                value = Math.min(HIGHEST_NUMBER + 1, value * 10 + tape.byteAt(at) - '0');
                at++;
            }
            note(NUMBER, from, value);
            return at;
        }

        private int takeWord(Tape tape, int from) {
            int at = from;
            for (int i = 0; i < TAPE_BYTES && isLetter(tape.byteAt(at)); i++) {
                at++;
            }
            note(wordKind(tape, from, at - from), from, 0);
            return at;
        }

        private static int wordKind(Tape tape, int from, int size) {
            int word = BETWEEN;
            int seen = 0;
            boolean same = true;
            for (int i = 0; i < WORDS.length(); i++) {
                char sign = WORDS.charAt(i);
                if (sign != ' ') {
                    same = same && seen < size && tape.byteAt(from + seen) == sign;
                    seen++;
                } else if (same && seen == size) {
                    return word;
                } else {
                    word++;
                    seen = 0;
                    same = true;
                }
            }
            return NO_TOKEN;
        }

        private int takeSign(Tape tape, int from) {
            int order = SIGNS.indexOf((char) tape.byteAt(from));
            int kind = order < 0 ? NO_TOKEN : LESS + order;
            boolean longer = (kind == LESS || kind == MORE) && tape.byteAt(from + 1) == '=';
            if (longer) {
                kind = kind == LESS ? LESS_OR_LIKE : MORE_OR_LIKE;
            }
            note(kind, from, 0);
            return longer ? from + 2 : from + 1;
        }
    }

    /**
     * Reads a tape by its grammar. Behind the first fault nothing more is read: every method
     * then comes back at once, and the token that is come to is the one that has the fault.
     */
    private static final class Reader {
        private static final int CANT_STAND = 1;
        private static final int WRONG_NUMBER = 2;
        private static final int TOO_DEEP = 3;
        private static final int SECOND_LAW = 4;
        private static final int WRONG_NAME = 5;
        private static final int TOO_MANY = 6;
        private static final int MOST_CLAUSES = 24;
        private static final int MOST_OPEN = 8;

        private final Scanner scanner = new Scanner();
        private final int[] kinds = new int[MOST_CLAUSES];
        private final int[] ones = new int[MOST_CLAUSES];
        private final int[] others = new int[MOST_CLAUSES];
        private final int[] code = new int[TAPE_BYTES];
        private int clauses = 0;
        private int codeSize = 0;
        private int lawKind = 0;
        private Law between = null;
        private Law tires = null;
        int fault = NONE;
        int faultPlace = NONE;

        /** The text on the tape; null, if it has a fault. */
        Script read(Tape tape) {
            fault = 0;
            faultPlace = NONE;
            clauses = 0;
            between = null;
            tires = null;
            scanner.cut(tape);
            for (int i = 0; i <= MOST_CLAUSES && fault == 0 && scanner.kind() != Scanner.END_OF_TAPE; i++) {
                readClause();
            }
            if (fault != 0) {
                faultPlace = scanner.from();
                return null;
            }
            return new Script(Arrays.copyOf(kinds, clauses), Arrays.copyOf(ones, clauses),
                    Arrays.copyOf(others, clauses), between, tires);
        }

        private void refuse(int kind) {
            if (fault == 0) {
                fault = kind;
            }
        }

        private void readClause() {
            int kind = scanner.kind();
            if (kind < Scanner.BETWEEN || kind > Scanner.LONG) {
                refuse(CANT_STAND);
            } else if (kind == Scanner.BETWEEN && between != null || kind == Scanner.TIRES && tires != null) {
                refuse(SECOND_LAW);
            } else if (clauses >= MOST_CLAUSES) {
                refuse(TOO_MANY);
            } else {
                kinds[clauses] = kind;
                ones[clauses] = 0;
                others[clauses] = 0;
                scanner.advance();
                readRest(kind);
                expect(Scanner.STOP);
                clauses++;
            }
        }

        private void readRest(int kind) {
            switch (kind) {
                case Scanner.BETWEEN:
                    between = readLaw(kind);
                    break;
                case Scanner.TIRES:
                    tires = readLaw(kind);
                    break;
                case Scanner.LONG:
                    ones[clauses] = readNumber(1, MOST_PLACES);
                    break;
                case Scanner.JOIN:
                    ones[clauses] = readNumber(1, NUMBERS);
                    expect(Scanner.AT);
                    others[clauses] = readNumber(0, MOST_PLACES - 1);
                    break;
                case Scanner.LEAVE:
                    ones[clauses] = readNumber(1, NUMBERS);
                    break;
                case Scanner.DAY:
                    ones[clauses] = readNumber(1, MOST_DAYS);
                    break;
                default:
                    break;
            }
        }

        private void expect(int kind) {
            if (fault != 0) {
                return;
            }
            if (scanner.kind() != kind) {
                refuse(CANT_STAND);
            } else {
                scanner.advance();
            }
        }

        private int readNumber(int low, int high) {
            if (fault != 0) {
                return 0;
            }
            if (scanner.kind() != Scanner.NUMBER) {
                refuse(CANT_STAND);
                return 0;
            }
            int value = scanner.value();
            if (value < low || value > high) {
                refuse(WRONG_NUMBER);
            } else {
                scanner.advance();
            }
            return value;
        }

        private Law readLaw(int kind) {
            lawKind = kind;
            codeSize = 0;
            readSum(0);
            return new Law(Arrays.copyOf(code, codeSize));
        }

        private void emit(int sign) {
            if (fault == 0 && codeSize < TAPE_BYTES) {
                code[codeSize] = sign;
                codeSize++;
            }
        }

        // In what follows open tells how many signs are open around; it keeps the recursion low.

        private void readSum(int open) {
            readProduct(open);
            for (int i = 0; i < TAPE_BYTES && fault == 0; i++) {
                int sign = scanner.kind();
                if (sign != Scanner.PLUS && sign != Scanner.MINUS) {
                    return;
                }
                scanner.advance();
                readProduct(open);
                emit(sign);
            }
        }

        private void readProduct(int open) {
            readOne(open);
            for (int i = 0; i < TAPE_BYTES && fault == 0; i++) {
                int sign = scanner.kind();
                if (sign != Scanner.TIMES && sign != Scanner.BY) {
                    return;
                }
                scanner.advance();
                readOne(open);
                emit(sign);
            }
        }

        private void readOne(int open) {
            if (fault != 0) {
                return;
            }
            int kind = scanner.kind();
            if (kind == Scanner.NUMBER) {
                emit(Law.PLAIN + readNumber(0, Scanner.HIGHEST_NUMBER));
            } else if (Scanner.isName(kind)) {
                readName(kind);
            } else if (kind == Scanner.OPEN || kind == Scanner.MINUS || kind == Scanner.STANDS
                    || kind == Scanner.FREE || kind == Scanner.IF) {
                readOpened(kind, open);
            } else {
                refuse(CANT_STAND);
            }
        }

        private void readName(int kind) {
            boolean ofTires = kind == Scanner.SINCE || kind == Scanner.FIRST;
            boolean ofBetween = kind == Scanner.LAST;
            if (ofTires && lawKind != Scanner.TIRES || ofBetween && lawKind != Scanner.BETWEEN) {
                refuse(WRONG_NAME);
                return;
            }
            emit(kind);
            scanner.advance();
        }

        private void readOpened(int kind, int open) {
            if (open >= MOST_OPEN) {
                refuse(TOO_DEEP);
                return;
            }
            scanner.advance();
            if (kind == Scanner.OPEN) {
                readSum(open + 1);
                expect(Scanner.CLOSE);
            } else if (kind == Scanner.IF) {
                readEither(open + 1);
                expect(Scanner.THEN);
                readSum(open + 1);
                expect(Scanner.ELSE);
                readSum(open + 1);
                expect(Scanner.END);
                emit(Law.PICK);
            } else {
                readOne(open + 1);
                emit(kind == Scanner.MINUS ? Law.NEGATE : kind);
            }
        }

        private void readEither(int open) {
            readBoth(open);
            for (int i = 0; i < TAPE_BYTES && fault == 0 && scanner.kind() == Scanner.OR; i++) {
                scanner.advance();
                readBoth(open);
                emit(Scanner.OR);
            }
        }

        private void readBoth(int open) {
            readAsk(open);
            for (int i = 0; i < TAPE_BYTES && fault == 0 && scanner.kind() == Scanner.AND; i++) {
                scanner.advance();
                readAsk(open);
                emit(Scanner.AND);
            }
        }

        private void readAsk(int open) {
            if (fault != 0) {
                return;
            }
            if (scanner.kind() != Scanner.NOT) {
                readCompared(open);
            } else if (open >= MOST_OPEN) {
                refuse(TOO_DEEP);
            } else {
                scanner.advance();
                readAsk(open + 1);
                emit(Scanner.NOT);
            }
        }

        private void readCompared(int open) {
            readSum(open);
            if (fault != 0) {
                return;
            }
            int relation = scanner.kind();
            if (!Scanner.isRelation(relation)) {
                refuse(CANT_STAND);
                return;
            }
            scanner.advance();
            readSum(open);
            emit(relation);
        }
    }

    /**
     * Seeks rows. All it is asked comes down to this: sets of numbers that are still to find
     * place, and places that are free (both bits). What it has found out of a set and free places
     * holds so long as the numbers keep their distances, so it is remembered from call to call.
     */
    private static final class Finder {
        private static final int SLOT_BITS = 12;
        private static final int SLOTS = 1 << SLOT_BITS;
        private static final int COUNTED = 0;
        private static final int FITTING = 1;
        private static final int WON = 2;
        // Behind this the places of the round.
        private static final int ROUND = 3;
        // A number with no more first places than this is laid ahead of all others.
        private static final int FEW = 2;

        // How many places it is from the first to the second of a number.
        private final int[] apart = new int[NUMBERS + 1];
        // Numbers of one distance take places alike: how a set is counted by the lowest of them.
        private final int[] alike = new int[NUMBERS + 1];
        private final int[] alikeBelow = new int[NUMBERS + 1];
        private final long[] keys = new long[SLOTS];
        private final int[] answers = new int[SLOTS];
        private final int[] laid = new int[MOST_PLACES];
        private boolean changed = true;
        private long era = 0;

        void learn(int number, int between) {
            if (isNumber(number) && apart[number] != between + 1) {
                apart[number] = between + 1;
                changed = true;
            }
        }

        void settle() {
            if (!changed) {
                return;
            }
            changed = false;
            era++;
            for (int number = 1; number <= NUMBERS; number++) {
                alike[number] = 0;
                for (int other = 1; other <= NUMBERS; other++) {
                    if (apart[other] == apart[number]) {
                        alike[number] |= bitOf(other);
                    }
                }
                alikeBelow[number] = alike[number] & bitOf(number) - 1;
            }
        }

        int apart(int number) {
            return isNumber(number) ? apart[number] : 0;
        }

        // ---- numbers and places

        /** Whether it is the lowest of those in the set that are alike: it then speaks for them. */
        private boolean speaks(int set, int number) {
            return (set & 1 << number - 1) != 0 && (set & alikeBelow[number]) == 0;
        }

        private int firstsOf(int number, int free) {
            return free & free >>> apart[number];
        }

        private int pairOf(int number, int first) {
            return 1 << first | 1 << first + apart[number];
        }

        private boolean isFirst(int number, int free, int first) {
            return (firstsOf(number, free) >>> first & 1) != 0;
        }

        /** The lowest number of a set (of none 0). */
        private static int lowestOf(int set) {
            int low = set & LAST_SET;
            return low == 0 ? 0 : Integer.numberOfTrailingZeros(low) + 1;
        }

        /** The number of a set that has the fewest first places. */
        private int scarcest(int set, int free) {
            int found = 0;
            int fewest = MOST_PLACES + 1;
            for (int number = 1; number <= NUMBERS && fewest > 0; number++) {
                if (speaks(set, number)) {
                    int many = Integer.bitCount(free & free >>> apart[number]);
                    if (many < fewest) {
                        fewest = many;
                        found = number;
                    }
                }
            }
            return found;
        }

        // ---- what is remembered: of one slot the latest, so it costs but time if that is another

        private long keyOf(int question, int set, int free) {
            return ((era << 5 | question) << 8 | set) << 16 | free;
        }

        private static int slotOf(long key) {
            int mixed = (int) (key ^ key >>> 24) * 0x9E3779B1;
            return mixed >>> 32 - SLOT_BITS;
        }

        private void remember(int slot, long key, int answer) {
            keys[slot] = key;
            answers[slot] = answer;
        }

        // ---- counting; each level takes a free place away, so there are at most 16

        /** In how many ways all of a set find place. */
        private int count(int set, int free) {
            if (set == 0) {
                return 1;
            }
            int many = Integer.bitCount(set);
            if (many == 1) {
                return Integer.bitCount(free & free >>> apart[lowestOf(set)]);
            }
            if (Integer.bitCount(free) < 2 * many) {
                return 0;
            }
            long key = keyOf(COUNTED, set, free);
            int slot = slotOf(key);
            if (keys[slot] == key) {
                return answers[slot];
            }
            int found = countAnew(set, free);
            remember(slot, key, found);
            return found;
        }

        private int countAnew(int set, int free) {
            int number = scarcest(set, free);
            if (!isNumber(number)) {
                return 0;
            }
            int firsts = firstsOf(number, free);
            return Integer.bitCount(firsts) <= FEW
                    ? countByNumber(set, free, number, firsts) : countByPlace(set, free);
        }

        private int countByNumber(int set, int free, int number, int firsts) {
            int found = 0;
            for (int first = 0; first < MOST_PLACES; first++) {
                if ((firsts >>> first & 1) != 0) {
                    found += count(set & ~bitOf(number), free & ~pairOf(number, first));
                }
            }
            return found;
        }

        /** By who stands at the first free place, or that nobody does. */
        private int countByPlace(int set, int free) {
            int place = Integer.numberOfTrailingZeros(free);
            int found = count(set, free & ~(1 << place));
            for (int number = 1; number <= NUMBERS; number++) {
                if (speaks(set, number)) {
                    int pair = pairOf(number, place);
                    if ((pair & ~free) == 0) {
                        found += Integer.bitCount(alike[number] & set) * count(set & ~bitOf(number), free & ~pair);
                    }
                }
            }
            return found;
        }

        /** As count, of a number of the set the first place being told. */
        int countWith(int set, int free, int number, int first) {
            if (!isNumber(number) || first < 0 || first >= MOST_PLACES || !isFirst(number, free, first)) {
                return 0;
            }
            return count(set & ~bitOf(number), free & ~pairOf(number, first));
        }

        // ---- counting otherwise; each level takes a number away

        int countRound(int set) {
            if (set == 0) {
                return 1;
            }
            int number = lowestOf(set);
            int places = 2 * Integer.bitCount(set);
            int way = apart[number] % places;
            if (way == 0) {
                return 0;
            }
            // The round looks alike from each place, so one first place of one number is enough.
            int firsts = 2 * way == places ? way : places;
            return firsts * countRest(set & ~bitOf(number), allOf(places) & ~(1 | 1 << way), places);
        }

        private int countRest(int set, int free, int places) {
            if (set == 0 || places <= 0) {
                return 1;
            }
            long key = keyOf(ROUND + places, set, free);
            int slot = slotOf(key);
            if (keys[slot] == key) {
                return answers[slot];
            }
            int place = Integer.numberOfTrailingZeros(free);
            int found = 0;
            for (int number = 1; number <= NUMBERS; number++) {
                if (speaks(set, number)) {
                    int way = apart[number] % places;
                    int onward = 1 << place | 1 << (place + way) % places;
                    int backward = 1 << place | 1 << (place + places - way) % places;
                    int rest = set & ~bitOf(number);
                    int many = way != 0 && (onward & ~free) == 0 ? countRest(rest, free & ~onward, places) : 0;
                    if (backward != onward && (backward & ~free) == 0) {
                        many += countRest(rest, free & ~backward, places);
                    }
                    found += Integer.bitCount(alike[number] & set) * many;
                }
            }
            remember(slot, key, found);
            return found;
        }

        /** In how many ways three of each of a set fill the free places (five numbers at most). */
        private int countThrees(int set, int free) {
            if (set == 0) {
                return 1;
            }
            int place = Integer.numberOfTrailingZeros(free);
            int found = 0;
            for (int number = 1; number <= NUMBERS; number++) {
                int last = place + 2 * apart[number];
                if (speaks(set, number) && last < MOST_PLACES) {
                    int three = pairOf(number, place) | 1 << last;
                    if ((three & ~free) == 0) {
                        found += Integer.bitCount(alike[number] & set)
                                * countThrees(set & ~bitOf(number), free & ~three);
                    }
                }
            }
            return found;
        }

        // ---- whether there is any way; as deep as counting

        private boolean fits(int set, int free) {
            if (set == 0) {
                return true;
            }
            int many = Integer.bitCount(set);
            if (many == 1) {
                return (free & free >>> apart[lowestOf(set)]) != 0;
            }
            if (Integer.bitCount(free) < 2 * many) {
                return false;
            }
            long key = keyOf(FITTING, set, free);
            int slot = slotOf(key);
            if (keys[slot] == key) {
                return answers[slot] != 0;
            }
            boolean found = fitsAnew(set, free);
            remember(slot, key, found ? 1 : 0);
            return found;
        }

        private boolean fitsAnew(int set, int free) {
            int number = scarcest(set, free);
            if (!isNumber(number)) {
                return false;
            }
            return Integer.bitCount(firstsOf(number, free)) <= FEW
                    ? lowestFirstOf(set, free, number) != NONE : fitsByPlace(set, free);
        }

        private boolean fitsByPlace(int set, int free) {
            int place = Integer.numberOfTrailingZeros(free);
            for (int number = 1; number <= NUMBERS; number++) {
                if (speaks(set, number) && fitsWith(set, free, number, place)) {
                    return true;
                }
            }
            return fits(set, free & ~(1 << place));
        }

        /** As fits, of a number of the set the first place being told. */
        private boolean fitsWith(int set, int free, int number, int first) {
            return isFirst(number, free, first) && fits(set & ~bitOf(number), free & ~pairOf(number, first));
        }

        private int lowestFirstOf(int set, int free, int number) {
            for (int first = 0; first < MOST_PLACES; first++) {
                if (fitsWith(set, free, number, first)) {
                    return first;
                }
            }
            return NONE;
        }

        /** The first place of a number in the lowest way; NONE, if it isn't of the set or there is no way. */
        int lowestFirst(int set, int free, int number) {
            int left = set;
            int open = free;
            for (int each = 1; each <= NUMBERS; each++) {
                if ((left & bitOf(each)) != 0) {
                    int first = lowestFirstOf(left, open, each);
                    if (first == NONE || each == number) {
                        return first;
                    }
                    left &= ~bitOf(each);
                    open &= ~pairOf(each, first);
                }
            }
            return NONE;
        }

        /** Numbers of the set that have one first place in all ways; NONE, if there is no way. */
        int settled(int set, int free) {
            if (!fits(set, free)) {
                return NONE;
            }
            int found = 0;
            for (int number = 1; number <= NUMBERS; number++) {
                if ((set & bitOf(number)) != 0 && isSettled(set, free, number)) {
                    found |= bitOf(number);
                }
            }
            return found;
        }

        private boolean isSettled(int set, int free, int number) {
            int many = 0;
            for (int first = 0; first < MOST_PLACES && many < 2; first++) {
                if (fitsWith(set, free, number, first)) {
                    many++;
                }
            }
            return many == 1;
        }

        /** Of the largest sets that find place the lowest. */
        int largest(int free) {
            for (int many = Integer.bitCount(free) / 2; many > 0; many--) {
                for (int set = 1; set <= LAST_SET; set++) {
                    if (Integer.bitCount(set) == many && fits(set, free)) {
                        return set;
                    }
                }
            }
            return 0;
        }

        // ---- rows in their order

        /** Who stands at a place in the row that has so many ahead of it; NONE, if there is none. */
        int whoIn(int set, int free, int ahead, int place) {
            if (place < 0 || place >= MOST_PLACES || ahead >= count(set, free)) {
                return NONE;
            }
            Arrays.fill(laid, 0);
            int left = set;
            int open = free;
            int rest = ahead;
            for (int at = 0; at <= place; at++) {
                if (laid[at] == 0) {
                    int number = 0;
                    int many = count(left, open & ~(1 << at));
                    for (int i = 0; i < NUMBERS && rest >= many; i++) {
                        rest -= many;
                        number++;
                        many = (left & bitOf(number)) != 0 ? countWith(left, open, number, at) : 0;
                    }
                    left &= number == 0 ? left : ~bitOf(number);
                    open &= ~(number == 0 ? 1 << at : lay(number, at));
                }
            }
            return laid[place];
        }

        /** Writes down where a number stands: its places. */
        private int lay(int number, int first) {
            int second = first + apart[number];
            if (second < MOST_PLACES) {
                laid[first] = number;
                laid[second] = number;
            }
            return pairOf(number, first);
        }

        /** In how many ways the numbers of a set choose first places, each by itself (all have some). */
        long choices(int set, int places) {
            long found = 1;
            for (int number = 1; number <= NUMBERS; number++) {
                if ((set & bitOf(number)) != 0) {
                    found *= places - apart[number];
                }
            }
            return found;
        }

        // ---- the game; each level takes two free places away, so there are at most five

        private boolean wins(int set, int free) {
            if (set == 0) {
                return false;
            }
            long key = keyOf(WON, set, free);
            int slot = slotOf(key);
            if (keys[slot] == key) {
                return answers[slot] != 0;
            }
            boolean found = winningPlay(set, free) != NONE;
            remember(slot, key, found ? 1 : 0);
            return found;
        }

        /** 100 times the lowest number by which it is won, and its lowest first place; NONE without. */
        private int winningPlay(int set, int free) {
            for (int number = 1; number <= NUMBERS; number++) {
                if (speaks(set, number)) {
                    int first = winningFirst(set, free, number);
                    if (first != NONE) {
                        return 100 * number + first;
                    }
                }
            }
            return NONE;
        }

        private int winningFirst(int set, int free, int number) {
            int firsts = firstsOf(number, free);
            for (int first = 0; first < MOST_PLACES; first++) {
                if ((firsts >>> first & 1) != 0
                        && !wins(set & ~bitOf(number), free & ~pairOf(number, first))) {
                    return first;
                }
            }
            return NONE;
        }
    }
}
