import java.math.BigInteger;
import java.util.ArrayDeque;
import java.util.ArrayList;
import java.util.Arrays;
import java.util.Collections;
import java.util.HashSet;
import java.util.List;
import java.util.Set;

/**
 * The document a second time, as literally and slowly as can be, to hold the class against: rows are
 * written out one by one, states are copied whole, texts are trees.
 */
final class Plain {
    // ---- the state

    static final class Line {
        final int day, number, what, place;

        Line(int day, int number, int what, int place) {
            this.day = day;
            this.number = number;
            this.what = what;
            this.place = place;
        }
    }

    static final class State {
        int length = 8, day = 0, x = 443;
        int[] first = new int[9], second = new int[9], since = new int[9];
        List<Line> book = new ArrayList<>();

        State() {
            Arrays.fill(first, -1);
            Arrays.fill(second, -1);
        }

        State copy() {
            State s = new State();
            s.length = length;
            s.day = day;
            s.x = x;
            s.first = first.clone();
            s.second = second.clone();
            s.since = since.clone();
            s.book = new ArrayList<>(book);
            return s;
        }
    }

    static final class All {
        State now = new State();
        ArrayDeque<State> past = new ArrayDeque<>();
        List<Text> texts = new ArrayList<>();
        int ruling = -1;
        List<int[]> said = new ArrayList<>();

        All copy() {
            All a = new All();
            a.now = now.copy();
            for (State s : past) {
                a.past.addLast(s.copy());
            }
            a.texts = new ArrayList<>(texts);
            a.ruling = ruling;
            a.said = new ArrayList<>(said);
            return a;
        }
    }

    All all = new All();
    All image = new All();
    List<Integer> tape = new ArrayList<>();
    int fault = -1, faultPlace = -1;

    // ---- texts

    interface Sum {
        long of(State s, int number);
    }

    static final class Clause {
        String kind;
        int one, other;
    }

    static final class Text {
        List<Clause> clauses = new ArrayList<>();
        Sum between, tires;
    }

    static final class Fault extends RuntimeException {
        final int kind, place;

        Fault(int kind, int place) {
            this.kind = kind;
            this.place = place;
        }
    }

    static final class Parser {
        final List<String> tokens = new ArrayList<>();
        final List<Integer> places = new ArrayList<>();
        int at = 0;
        String law = "";
        final ArrayDeque<String> open = new ArrayDeque<>();

        Parser(List<Integer> bytes) {
            StringBuilder text = new StringBuilder();
            for (int b : bytes) {
                text.append((char) b);
            }
            java.util.regex.Matcher m = java.util.regex.Pattern
                    .compile("[ \\n]+|[a-zA-Z]+|[0-9]+|<=|>=|[<>=#+*/();-]|.", java.util.regex.Pattern.DOTALL).matcher(text);
            while (m.find()) {
                if (m.group().charAt(0) != ' ' && m.group().charAt(0) != '\n') {
                    tokens.add(m.group());
                    places.add(m.start());
                }
            }
            tokens.add("");
            places.add(bytes.size());
        }

        String token() {
            return tokens.get(at);
        }

        Fault faulty(int kind) {
            return new Fault(kind, places.get(at));
        }

        boolean take(String t) {
            if (token().equals(t)) {
                at++;
                return true;
            }
            return false;
        }

        void must(String t) {
            if (!take(t)) {
                throw faulty(1);
            }
        }

        boolean isNumber() {
            return token().matches("[0-9]+");
        }

        int number(int low, int high) {
            if (!isNumber()) {
                throw faulty(1);
            }
            BigInteger v = new BigInteger(token());
            if (v.compareTo(BigInteger.valueOf(low)) < 0 || v.compareTo(BigInteger.valueOf(high)) > 0) {
                throw faulty(2);
            }
            at++;
            return v.intValue();
        }

        void opened(String t) {
            if (open.size() == 8) {
                throw faulty(3);
            }
            open.push(t);
            at++;
        }

        Text text() {
            Text text = new Text();
            while (!token().isEmpty()) {
                String kind = token();
                if (!Arrays.asList("between", "tires", "long", "join", "leave", "turn", "day").contains(kind)) {
                    throw faulty(1);
                }
                if (kind.equals("between") && text.between != null || kind.equals("tires") && text.tires != null) {
                    throw faulty(4);
                }
                if (text.clauses.size() == 24) {
                    throw faulty(6);
                }
                at++;
                Clause c = new Clause();
                c.kind = kind;
                law = kind;
                switch (kind) {
                    case "between" -> text.between = sum();
                    case "tires" -> text.tires = sum();
                    case "long" -> c.one = number(1, 16);
                    case "join" -> {
                        c.one = number(1, 8);
                        must("at");
                        c.other = number(0, 15);
                    }
                    case "leave" -> c.one = number(1, 8);
                    case "day" -> c.one = number(1, 60);
                    default -> { }
                }
                must(";");
                text.clauses.add(c);
            }
            return text;
        }

        static long cut(long v) {
            return Math.max(-1000000, Math.min(1000000, v));
        }

        Sum sum() {
            Sum left = product();
            while (true) {
                Sum l = left;
                if (take("+")) {
                    Sum r = product();
                    left = (s, n) -> cut(l.of(s, n) + r.of(s, n));
                } else if (take("-")) {
                    Sum r = product();
                    left = (s, n) -> cut(l.of(s, n) - r.of(s, n));
                } else {
                    return left;
                }
            }
        }

        Sum product() {
            Sum left = one();
            while (true) {
                Sum l = left;
                if (take("*")) {
                    Sum r = one();
                    left = (s, n) -> cut(l.of(s, n) * r.of(s, n));
                } else if (take("/")) {
                    Sum r = one();
                    left = (s, n) -> r.of(s, n) == 0 ? 0 : l.of(s, n) / r.of(s, n);
                } else {
                    return left;
                }
            }
        }

        Sum one() {
            if (isNumber()) {
                long v = number(0, 9999);
                return (s, n) -> v;
            }
            String t = token();
            switch (t) {
                case "day", "number", "long", "walk", "since", "first", "last" -> {
                    return name(t);
                }
                case "(" -> {
                    opened(t);
                    Sum inner = sum();
                    must(")");
                    open.pop();
                    return inner;
                }
                case "-" -> {
                    opened(t);
                    Sum inner = one();
                    open.pop();
                    return (s, n) -> -inner.of(s, n);
                }
                case "stands" -> {
                    opened(t);
                    Sum inner = one();
                    open.pop();
                    return (s, n) -> {
                        long v = inner.of(s, n);
                        return v >= 1 && v <= 8 && s.first[(int) v] >= 0 ? 1 : 0;
                    };
                }
                case "free" -> {
                    opened(t);
                    Sum inner = one();
                    open.pop();
                    return (s, n) -> {
                        long v = inner.of(s, n);
                        return v >= 0 && v < s.length && whoAt(s, (int) v) == 0 ? 1 : 0;
                    };
                }
                case "if" -> {
                    opened(t);
                    Sum asked = either();
                    must("then");
                    Sum yes = sum();
                    must("else");
                    Sum no = sum();
                    must("end");
                    open.pop();
                    return (s, n) -> asked.of(s, n) != 0 ? yes.of(s, n) : no.of(s, n);
                }
                default -> throw faulty(1);
            }
        }

        Sum name(String t) {
            boolean tires = law.equals("tires");
            if ((t.equals("since") || t.equals("first")) && !tires || t.equals("last") && tires) {
                throw faulty(5);
            }
            at++;
            return switch (t) {
                case "day" -> (s, n) -> s.day;
                case "number" -> (s, n) -> n;
                case "long" -> (s, n) -> s.length;
                case "walk" -> (s, n) -> Integer.bitCount(standing(s));
                case "since" -> (s, n) -> s.since[n];
                case "first" -> (s, n) -> s.first[n];
                default -> (s, n) -> {
                    int last = 0;
                    for (Line l : s.book) {
                        last = l.what == 0 ? l.number : last;
                    }
                    return last;
                };
            };
        }

        Sum either() {
            Sum left = both();
            while (take("or")) {
                Sum l = left, r = both();
                left = (s, n) -> (l.of(s, n) != 0 | r.of(s, n) != 0) ? 1 : 0;
            }
            return left;
        }

        Sum both() {
            Sum left = ask();
            while (take("and")) {
                Sum l = left, r = ask();
                left = (s, n) -> (l.of(s, n) != 0 & r.of(s, n) != 0) ? 1 : 0;
            }
            return left;
        }

        Sum ask() {
            if (token().equals("not")) {
                opened("not");
                Sum inner = ask();
                open.pop();
                return (s, n) -> 1 - inner.of(s, n);
            }
            Sum l = sum();
            String t = token();
            if (!Arrays.asList("<", "<=", ">", ">=", "=", "#").contains(t)) {
                throw faulty(1);
            }
            at++;
            Sum r = sum();
            return (s, n) -> {
                long a = l.of(s, n), b = r.of(s, n);
                return switch (t) {
                    case "<" -> a < b;
                    case "<=" -> a <= b;
                    case ">" -> a > b;
                    case ">=" -> a >= b;
                    case "=" -> a == b;
                    default -> a != b;
                } ? 1 : 0;
            };
        }
    }

    int feed(int a, int b, int c, int d, int e) {
        if (tape.size() + 20 > 300) {
            return -1;
        }
        for (int w : new int[] {a, b, c, d, e}) {
            for (byte v : java.nio.ByteBuffer.allocate(4).putInt(w).array()) {
                tape.add(v & 255);
            }
        }
        return tape.size();
    }

    int end(int n) {
        if (n < 0 || n > tape.size()) {
            return -1;
        }
        tape = new ArrayList<>(tape.subList(0, n));
        return n;
    }

    int text() {
        if (all.texts.size() == 4) {
            return -1;
        }
        List<Integer> bytes = tape;
        tape = new ArrayList<>();
        try {
            Text t = new Parser(bytes).text();
            fault = 0;
            faultPlace = -1;
            all.texts.add(t);
            return all.texts.size() - 1;
        } catch (Fault f) {
            fault = f.kind;
            faultPlace = f.place;
            return -1;
        }
    }

    int fault(int what) {
        return what == 0 ? fault : what == 1 ? faultPlace : -1;
    }

    boolean by(int text) {
        if (text < -1 || text >= all.texts.size()) {
            return false;
        }
        all.ruling = text;
        return true;
    }

    // ---- laws

    Text ruler() {
        return all.ruling == -1 ? null : all.texts.get(all.ruling);
    }

    int between(Text t, State s, int number) {
        return t == null || t.between == null ? number : (int) Math.max(0, Math.min(14, t.between.of(s, number)));
    }

    int between(int number) {
        return between(ruler(), all.now, number);
    }

    int tires(State s, int number) {
        Text t = ruler();
        return t == null || t.tires == null ? 1 : (int) Math.max(0, Math.min(10, t.tires.of(s, number)));
    }

    static int standing(State s) {
        int bits = 0;
        for (int k = 1; k <= 8; k++) {
            bits |= s.first[k] >= 0 ? 1 << (k - 1) : 0;
        }
        return bits;
    }

    static int whoAt(State s, int place) {
        for (int k = 1; k <= 8; k++) {
            if (s.first[k] >= 0 && (s.first[k] == place || s.second[k] == place)) {
                return k;
            }
        }
        return 0;
    }

    // ---- what is done

    static void write(State s, int number, int what, int place) {
        s.book.add(new Line(s.day, number, what, place));
        if (s.book.size() > 25) {
            s.book.remove(0);
        }
    }

    boolean joins(State s, int number, int place) {
        if (number < 1 || number > 8 || place < 0 || place >= s.length || s.first[number] >= 0) {
            return false;
        }
        int second = place + between(ruler(), s, number) + 1;
        if (second >= s.length || whoAt(s, place) != 0 || whoAt(s, second) != 0) {
            return false;
        }
        s.first[number] = place;
        s.second[number] = second;
        s.since[number] = 0;
        write(s, number, 0, place);
        return true;
    }

    boolean leaves(State s, int number, int what) {
        if (number < 1 || number > 8 || s.first[number] < 0) {
            return false;
        }
        write(s, number, what, s.first[number]);
        s.first[number] = -1;
        s.second[number] = -1;
        s.since[number] = 0;
        return true;
    }

    boolean turns(State s) {
        for (int k = 1; k <= 8; k++) {
            if (s.first[k] >= 0) {
                int f = s.length - 1 - s.second[k];
                s.second[k] = s.length - 1 - s.first[k];
                s.first[k] = f;
            }
        }
        return standing(s) != 0;
    }

    static int anew(int x) {
        return (x * 701 + 571) % 31019;
    }

    int passes(State s) {
        int gone = 0;
        for (int k = 1; k <= 8; k++) {
            if (s.first[k] >= 0) {
                s.since[k] = Math.min(99, s.since[k] + 1);
                int draw = s.x % 10;
                s.x = anew(s.x);
                if (draw < tires(s, k)) {
                    leaves(s, k, 2);
                    gone++;
                }
            }
        }
        s.day++;
        return gone;
    }

    void step(State next) {
        all.past.addLast(all.now);
        if (all.past.size() > 30) {
            all.past.removeFirst();
        }
        all.now = next;
    }

    boolean length(int places) {
        if (places < 1 || places > 16 || places == all.now.length) {
            return false;
        }
        for (int k = 1; k <= 8; k++) {
            if (all.now.second[k] >= places) {
                return false;
            }
        }
        State s = all.now.copy();
        s.length = places;
        step(s);
        return true;
    }

    int join(int number, int place) {
        State s = all.now.copy();
        if (!joins(s, number, place)) {
            return -1;
        }
        step(s);
        return s.second[number];
    }

    boolean leave(int number) {
        State s = all.now.copy();
        if (!leaves(s, number, 1)) {
            return false;
        }
        step(s);
        return true;
    }

    int turn() {
        State s = all.now.copy();
        if (!turns(s)) {
            return -1;
        }
        step(s);
        return Integer.bitCount(standing(s));
    }

    boolean shift(int by) {
        if (by == 0 || Math.abs((long) by) > 15 || standing(all.now) == 0) {
            return false;
        }
        State s = all.now.copy();
        for (int k = 1; k <= 8; k++) {
            if (s.first[k] >= 0) {
                s.first[k] += by;
                s.second[k] += by;
                if (s.first[k] < 0 || s.second[k] >= s.length) {
                    return false;
                }
            }
        }
        step(s);
        return true;
    }

    int day(int n) {
        if (n < 1 || n > 60 || all.now.day + n > 9999) {
            return -1;
        }
        int gone = 0;
        for (int i = 0; i < n; i++) {
            State s = all.now.copy();
            gone += passes(s);
            step(s);
        }
        return gone;
    }

    int played(int text) {
        if (text < 0 || text >= all.texts.size()) {
            return -2;
        }
        int i = 0;
        for (Clause c : all.texts.get(text).clauses) {
            boolean could = switch (c.kind) {
                case "long" -> length(c.one);
                case "join" -> join(c.one, c.other) != -1;
                case "leave" -> leave(c.one);
                case "turn" -> turn() != -1;
                case "day" -> {
                    int can = Math.min(c.one, 9999 - all.now.day);
                    if (can > 0) {
                        day(can);
                    }
                    yield can == c.one;
                }
                default -> true;
            };
            if (!could) {
                return i;
            }
            i++;
        }
        return -1;
    }

    int years(int seed, int n) {
        if (seed < 0 || seed > 9999 || n < 1 || n > 40) {
            return -1;
        }
        State s = all.now.copy();
        s.x = seed * 2 + 443;
        for (int i = 0; i < n; i++) {
            int x = s.x;
            s.x = anew(x);
            int number = 1 + x / 6 % 8;
            if (x % 6 <= 1) {
                joins(s, number, x % 16);
            } else if (x % 6 == 2) {
                if (x % 4 == 0) {
                    leaves(s, number, 1);
                }
            } else if (x % 6 == 3) {
                if (x % 4 == 1) {
                    turns(s);
                }
            } else if (s.day < 9999) {
                passes(s);
            }
        }
        step(s);
        return s.day;
    }

    int undo() {
        if (all.past.isEmpty()) {
            return -1;
        }
        all.now = all.past.removeLast();
        return all.past.size();
    }

    // ---- what is asked

    int of(int number, int what) {
        if (number < 1 || number > 8 || what < 0 || what > 4) {
            return -2;
        }
        State s = all.now;
        return new int[] {s.first[number], s.second[number], s.since[number], between(number), tires(s, number)}[what];
    }

    int at(int place) {
        return place < 0 || place >= all.now.length ? -1 : whoAt(all.now, place);
    }

    int free() {
        int bits = 0;
        for (int p = 0; p < all.now.length; p++) {
            bits |= whoAt(all.now, p) == 0 ? 1 << p : 0;
        }
        return bits;
    }

    int is(int what) {
        State s = all.now;
        return what < 0 || what > 4 ? -2 : new int[] {s.day, s.x, s.length, standing(s), free()}[what];
    }

    int book(int i, int what) {
        List<Line> book = all.now.book;
        if (i == -1) {
            return book.size();
        }
        if (i < 0 || i >= book.size() || what < 0 || what > 3) {
            return -2;
        }
        Line l = book.get(i);
        return new int[] {l.day, l.number, l.what, l.place}[what];
    }

    int foretold(int n) {
        if (n < 1 || n > 60) {
            return -1;
        }
        State s = all.now.copy();
        for (int i = 0; i < n && s.day < 9999; i++) {
            passes(s);
        }
        return standing(s);
    }

    int can(int number) {
        if (number < 1 || number > 8) {
            return -1;
        }
        int bits = 0;
        for (int p = 0; p < 16; p++) {
            bits |= joins(all.now.copy(), number, p) ? 1 << p : 0;
        }
        return bits;
    }

    // ---- rows, all written out

    static boolean isSet(int set) {
        return set >= 0 && set <= 255;
    }

    static List<Integer> members(int set) {
        List<Integer> m = new ArrayList<>();
        for (int k = 1; k <= 8; k++) {
            if ((set >> (k - 1) & 1) != 0) {
                m.add(k);
            }
        }
        return m;
    }

    /** All rows that have numbers laid in a row that has some already; in the order of first places. */
    void lay(List<Integer> numbers, int i, int[] row, List<int[]> found) {
        if (i == numbers.size()) {
            found.add(row.clone());
            return;
        }
        int k = numbers.get(i), d = between(k) + 1;
        for (int p = 0; p + d < row.length; p++) {
            if (row[p] == 0 && row[p + d] == 0) {
                row[p] = k;
                row[p + d] = k;
                lay(numbers, i + 1, row, found);
                row[p] = 0;
                row[p + d] = 0;
            }
        }
    }

    List<int[]> allRows(int set, int gaps) {
        if (!isSet(set) || gaps < 0 || gaps > 16 || 2 * Integer.bitCount(set) + gaps > 16) {
            return null;
        }
        List<int[]> found = new ArrayList<>();
        lay(members(set), 0, new int[2 * Integer.bitCount(set) + gaps], found);
        Collections.sort(found, Arrays::compare);
        return found;
    }

    long rows(int set, int gaps) {
        List<int[]> rows = allRows(set, gaps);
        return rows == null ? -1 : rows.size();
    }

    int row(int set, int gaps, int place) {
        return rowAt(set, gaps, 0, place);
    }

    int rowAt(int set, int gaps, int i, int place) {
        List<int[]> rows = allRows(set, gaps);
        if (rows == null || i < 0 || i >= rows.size() || place < 0 || place >= rows.get(i).length) {
            return -1;
        }
        return rows.get(i)[place];
    }

    long often(int set, int gaps, int number, int place) {
        List<int[]> rows = allRows(set, gaps);
        if (rows == null || !members(set).contains(number) || place < 0 || place >= 2 * Integer.bitCount(set) + gaps) {
            return -1;
        }
        return rows.stream().filter(r -> r[place] == number).count();
    }

    static int firstOf(int[] row, int number) {
        for (int p = 0; p < row.length; p++) {
            if (row[p] == number) {
                return p;
            }
        }
        return -1;
    }

    static int same(List<int[]> rows, int set) {
        int bits = 0;
        for (int k : members(set)) {
            Set<Integer> firsts = new HashSet<>();
            for (int[] r : rows) {
                firsts.add(firstOf(r, k));
            }
            bits |= firsts.size() == 1 ? 1 << (k - 1) : 0;
        }
        return bits;
    }

    int pinned(int set, int gaps) {
        List<int[]> rows = allRows(set, gaps);
        return rows == null || rows.isEmpty() ? -1 : same(rows, set);
    }

    int fewest(int set) {
        for (int gaps = 0; gaps <= 16; gaps++) {
            if (rows(set, gaps) > 0) {
                return gaps;
            }
        }
        return -1;
    }

    static int[] turned(int[] row) {
        int[] t = new int[row.length];
        for (int i = 0; i < t.length; i++) {
            t[i] = row[row.length - 1 - i];
        }
        return t;
    }

    long kinds(int set, int gaps) {
        List<int[]> rows = allRows(set, gaps);
        return rows == null ? -1 : rows.stream().filter(r -> Arrays.compare(r, turned(r)) <= 0).count();
    }

    long rounds(int set) {
        if (!isSet(set)) {
            return -1;
        }
        Set<String> found = new HashSet<>();
        round(members(set), 0, new int[2 * Integer.bitCount(set)], found);
        return found.size();
    }

    void round(List<Integer> numbers, int i, int[] row, Set<String> found) {
        if (i == numbers.size()) {
            found.add(Arrays.toString(row));
            return;
        }
        int k = numbers.get(i), n = row.length;
        for (int p = 0; p < n; p++) {
            int q = (p + between(k) + 1) % n;
            if (p != q && row[p] == 0 && row[q] == 0) {
                row[p] = k;
                row[q] = k;
                round(numbers, i + 1, row, found);
                row[p] = 0;
                row[q] = 0;
            }
        }
    }

    long threes(int set) {
        if (!isSet(set) || Integer.bitCount(set) > 5) {
            return -1;
        }
        return three(members(set), 0, new int[3 * Integer.bitCount(set)]);
    }

    long three(List<Integer> numbers, int i, int[] row) {
        if (i == numbers.size()) {
            return 1;
        }
        long found = 0;
        int k = numbers.get(i), d = between(k) + 1;
        for (int p = 0; p + 2 * d < row.length; p++) {
            if (row[p] == 0 && row[p + d] == 0 && row[p + 2 * d] == 0) {
                row[p] = row[p + d] = row[p + 2 * d] = k;
                found += three(numbers, i + 1, row);
                row[p] = row[p + d] = row[p + 2 * d] = 0;
            }
        }
        return found;
    }

    int[] nowRow() {
        int[] row = new int[all.now.length];
        for (int p = 0; p < row.length; p++) {
            row[p] = whoAt(all.now, p);
        }
        return row;
    }

    List<int[]> allWays(int set) {
        List<int[]> found = new ArrayList<>();
        lay(members(set & ~standing(all.now)), 0, nowRow(), found);
        return found;
    }

    long ways(int set) {
        return isSet(set) ? allWays(set).size() : -1;
    }

    int fill(int set, int number) {
        if (!isSet(set) || number < 1 || number > 8) {
            return -1;
        }
        List<int[]> ways = allWays(set);
        return ways.isEmpty() ? -1 : firstOf(ways.get(0), number);
    }

    int forced(int set) {
        if (!isSet(set)) {
            return -1;
        }
        List<int[]> ways = allWays(set);
        return ways.isEmpty() ? -1 : same(ways, set & ~standing(all.now));
    }

    int stay(int set) {
        if (!isSet(set)) {
            return -1;
        }
        int best = -1;
        int here = set & standing(all.now);
        for (int t = 0; t < 256; t++) {
            if ((t & ~here) == 0 && (best == -1 || Integer.bitCount(t) > Integer.bitCount(best))) {
                int[] row = nowRow();
                for (int p = 0; p < row.length; p++) {
                    if (row[p] != 0 && (t >> (row[p] - 1) & 1) == 0) {
                        row[p] = 0;
                    }
                }
                if (layable(members(set & ~t), 0, row)) {
                    best = t;
                }
            }
        }
        return best;
    }

    boolean layable(List<Integer> numbers, int i, int[] row) {
        if (i == numbers.size()) {
            return true;
        }
        int k = numbers.get(i), d = between(k) + 1;
        for (int p = 0; p + d < row.length; p++) {
            if (row[p] == 0 && row[p + d] == 0) {
                row[p] = row[p + d] = k;
                boolean could = layable(numbers, i + 1, row);
                row[p] = row[p + d] = 0;
                if (could) {
                    return true;
                }
            }
        }
        return false;
    }

    long likely(int set, boolean low) {
        if (!isSet(set)) {
            return -1;
        }
        BigInteger every = BigInteger.ONE;
        int n = 2 * Integer.bitCount(set);
        for (int k : members(set)) {
            every = every.multiply(BigInteger.valueOf(Math.max(0, n - between(k) - 1)));
        }
        BigInteger good = BigInteger.valueOf(rows(set, 0));
        if (every.signum() == 0) {
            return low ? 1 : 0;
        }
        BigInteger common = every.gcd(good);
        return (low ? every : good).divide(common).longValueExact();
    }

    int most(int places, boolean many) {
        if (places < 1 || places > 16) {
            return -1;
        }
        int best = 0;
        for (int set = 1; set < 256; set++) {
            if (Integer.bitCount(set) > Integer.bitCount(best) && 2 * Integer.bitCount(set) <= places
                    && layable(members(set), 0, new int[places])) {
                best = set;
            }
        }
        return many ? Integer.bitCount(best) : best;
    }

    int game(int places, int set) {
        if (places < 1 || places > 10 || !isSet(set) || Integer.bitCount(set) > 5) {
            return -1;
        }
        return winning(new int[places], members(set)) >= 0 ? 1 : 0;
    }

    int play(int places, int set) {
        return game(places, set) != 1 ? -1 : winning(new int[places], members(set));
    }

    int winning(int[] row, List<Integer> numbers) {
        for (int k : numbers) {
            List<Integer> rest = new ArrayList<>(numbers);
            rest.remove((Integer) k);
            int d = between(k) + 1;
            for (int p = 0; p + d < row.length; p++) {
                if (row[p] == 0 && row[p + d] == 0) {
                    row[p] = row[p + d] = k;
                    int reply = winning(row, rest);
                    row[p] = row[p + d] = 0;
                    if (reply < 0) {
                        return 100 * k + p;
                    }
                }
            }
        }
        return -1;
    }

    // ---- IV, V

    int said(int number, int between) {
        if (number == -1) {
            all.said.clear();
            return 0;
        }
        if (number < 1 || number > 8 || between < 0 || between > 14 || all.said.size() == 8) {
            return -2;
        }
        all.said.add(new int[] {number, between});
        return all.said.size();
    }

    int whose() {
        int bits = 0;
        for (int t = 0; t < all.texts.size(); t++) {
            Text text = all.texts.get(t);
            bits |= all.said.stream().allMatch(s -> between(text, all.now, s[0]) == s[1]) ? 1 << t : 0;
        }
        return bits;
    }

    int eldest() {
        return members(standing(all.now)).stream()
                .max((a, b) -> all.now.since[a] != all.now.since[b] ? all.now.since[a] - all.now.since[b] : b - a).orElse(-1);
    }

    int widest() {
        State s = all.now;
        return members(standing(s)).stream().max((a, b) -> {
            int wa = s.second[a] - s.first[a], wb = s.second[b] - s.first[b];
            return wa != wb ? wa - wb : b - a;
        }).orElse(-1);
    }

    boolean mirror() {
        return Arrays.equals(nowRow(), turned(nowRow()));
    }

    int crossings(int inside) {
        State s = all.now;
        int found = 0;
        for (int a : members(standing(s))) {
            for (int b : members(standing(s))) {
                if (a < b) {
                    int in = (s.first[a] < s.first[b] && s.first[b] < s.second[a] ? 1 : 0)
                            + (s.first[a] < s.second[b] && s.second[b] < s.second[a] ? 1 : 0);
                    int out = (s.first[b] < s.first[a] && s.first[a] < s.second[b] ? 1 : 0)
                            + (s.first[b] < s.second[a] && s.second[a] < s.second[b] ? 1 : 0);
                    found += in == inside || out == inside ? 1 : 0;
                }
            }
        }
        return found;
    }

    int crossed() {
        return crossings(1);
    }

    int nested() {
        return crossings(2);
    }

    int spread() {
        int[] row = nowRow();
        int low = -1, high = -1;
        for (int p = 0; p < row.length; p++) {
            if (row[p] != 0) {
                low = low == -1 ? p : low;
                high = p;
            }
        }
        return low == -1 ? 0 : high - low + 1;
    }

    int room() {
        int[] row = nowRow();
        int best = 0;
        for (int from = 0; from < row.length; from++) {
            for (int to = from; to < row.length && row[to] == 0; to++) {
                best = Math.max(best, to - from + 1);
            }
        }
        return best;
    }

    int ledger(int what) {
        return what < 0 || what > 2 ? -2 : (int) all.now.book.stream().filter(l -> l.what == what).count();
    }

    int image() {
        image = all.copy();
        return all.now.day;
    }

    int back() {
        all = image.copy();
        return all.now.day;
    }

    int about(int what) {
        return what < 0 || what > 4 ? -2
                : new int[] {all.texts.size(), all.ruling, all.past.size(), all.said.size(), tape.size()}[what];
    }
}
