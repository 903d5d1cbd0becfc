import java.util.Random;

/** Long runs of drawn calls, each answered by the class and by the document written out plainly. */
public final class AgainstPlainTest {
    private static int wrong = 0;
    private static int answered = 0;
    private static final int CALLS = 500;

    private final Random random;
    private final int run;
    private final Procession one = new Procession();
    private final Plain other = new Plain();
    private final StringBuilder told = new StringBuilder();

    private AgainstPlainTest(int run) {
        this.run = run;
        this.random = new Random(run * 7919L + 17);
    }

    public static void main(String[] args) {
        int runs = args.length > 0 ? Integer.parseInt(args[0]) : 120;
        int from = args.length > 1 ? Integer.parseInt(args[1]) : 0;
        for (int run = from; run < from + runs && wrong < 10; run++) {
            new AgainstPlainTest(run).go();
        }
        System.out.println(wrong == 0 ? "the class and the plain one answer alike, " + answered + " calls" : wrong + " answers unlike");
        if (wrong != 0) {
            System.exit(1);
        }
    }

    private void go() {
        int before = wrong;
        if (run % 10 == 9) {
            grow();
        }
        for (int i = 0; i < CALLS && wrong == before; ) {
            int choice = random.nextInt(10);
            if (choice == 0) {
                i += feedText();
            } else if (choice < 5) {
                change();
                i++;
            } else if (choice < 7) {
                look();
                i++;
            } else {
                ask();
                i++;
            }
        }
    }

    /** To the last days, to which drawn calls alone would not come. */
    private void grow() {
        for (int i = 0; i < 166; i++) {
            due("day(60)", one.day(60), other.day(60));
        }
        due("image()", one.image(), other.image());
    }

    private void due(String call, long got, long want) {
        answered++;
        told.append(call).append(" = ").append(want).append('\n');
        if (got != want) {
            wrong++;
            System.out.println("run " + run + ": " + call + " answered " + got + ", the plain one " + want);
            if (wrong == 1) {
                System.out.println(told);
            }
        }
    }

    private static long bit(boolean b) {
        return b ? 1 : 0;
    }

    /** Far from all that is told, or near to where numbers of the machine end. */
    private int far() {
        int[] ends = {Integer.MIN_VALUE, Integer.MAX_VALUE, 1 << 30, -(1 << 30), 1 << 16, 256, -256, 32, 31, -32, 64};
        return random.nextBoolean() ? random.nextInt() : ends[random.nextInt(ends.length)] + random.nextInt(5) - 2;
    }

    private int near(int drawn) {
        return random.nextInt(60) == 0 ? far() : drawn;
    }

    private int number() {
        return near(random.nextInt(25) == 0 ? random.nextInt(14) - 3 : 1 + random.nextInt(8));
    }

    private int place() {
        return near(random.nextInt(25) == 0 ? random.nextInt(22) - 3 : random.nextInt(other.all.now.length));
    }

    private int set() {
        if (random.nextInt(60) == 0) {
            return far();
        }
        if (random.nextInt(30) == 0) {
            return random.nextBoolean() ? -1 - random.nextInt(3) : 256 + random.nextInt(300);
        }
        int set = 0;
        int many = random.nextInt(12) == 0 ? random.nextInt(8) : random.nextInt(6);
        for (int i = 0; i < many; i++) {
            set |= 1 << random.nextInt(8);
        }
        return set;
    }

    private int gaps(int set) {
        int left = 16 - 2 * Integer.bitCount(set & 255);
        return near(random.nextInt(20) == 0 ? random.nextInt(22) - 2 : random.nextInt(Math.min(left, 5) + 1));
    }

    private int what(int most) {
        return near(random.nextInt(12) == 0 ? random.nextInt(most + 5) - 2 : random.nextInt(most + 1));
    }

    // ---- what changes

    private void change() {
        int n;
        switch (random.nextInt(14)) {
            case 0 -> {
                n = near(random.nextInt(3) == 0 ? random.nextInt(20) - 1 : 8 + random.nextInt(9));
                due("length(" + n + ")", bit(one.length(n)), bit(other.length(n)));
            }
            case 1, 2, 3, 4, 5 -> {
                int k = number(), p = place();
                due("join(" + k + ", " + p + ")", one.join(k, p), other.join(k, p));
            }
            case 6 -> {
                int k = number();
                due("leave(" + k + ")", bit(one.leave(k)), bit(other.leave(k)));
            }
            case 7 -> due("turn()", one.turn(), other.turn());
            case 8 -> {
                int by = near(random.nextInt(10) == 0 ? random.nextInt(50) - 25 : random.nextInt(9) - 4);
                due("shift(" + by + ")", bit(one.shift(by)), bit(other.shift(by)));
            }
            case 9 -> {
                n = near(random.nextInt(6) == 0 ? random.nextInt(70) - 4 : 1 + random.nextInt(3));
                due("day(" + n + ")", one.day(n), other.day(n));
            }
            case 10 -> {
                n = near(random.nextInt(5) - random.nextInt(2));
                due("played(" + n + ")", one.played(n), other.played(n));
            }
            case 11 -> {
                int seed = near(random.nextInt(15) == 0 ? random.nextInt(3) * 9999 - 5000 : random.nextInt(10000));
                n = near(random.nextInt(8) == 0 ? random.nextInt(50) - 4 : 1 + random.nextInt(40));
                due("years(" + seed + ", " + n + ")", one.years(seed, n), other.years(seed, n));
            }
            case 12 -> due("undo()", one.undo(), other.undo());
            default -> {
                n = random.nextInt(8);
                if (n == 0) {
                    due("image()", one.image(), other.image());
                } else if (n == 1) {
                    due("back()", one.back(), other.back());
                } else if (n < 5) {
                    int t = near(random.nextInt(6) - 1);
                    due("by(" + t + ")", bit(one.by(t)), bit(other.by(t)));
                } else {
                    int k = random.nextInt(10) == 0 ? -1 : number();
                    int b = k >= 1 && k <= 8 && random.nextBoolean() ? other.between(k) : random.nextInt(17) - 1;
                    due("said(" + k + ", " + b + ")", one.said(k, b), other.said(k, b));
                }
            }
        }
    }

    // ---- what is looked at

    private void look() {
        int w;
        switch (random.nextInt(15)) {
            case 0, 1 -> {
                int k = number();
                w = what(4);
                due("of(" + k + ", " + w + ")", one.of(k, w), other.of(k, w));
            }
            case 2 -> {
                int p = place();
                due("at(" + p + ")", one.at(p), other.at(p));
            }
            case 3, 4 -> {
                w = what(4);
                due("is(" + w + ")", one.is(w), other.is(w));
            }
            case 5, 6 -> {
                int i = near(random.nextInt(28) - 1);
                w = what(3);
                due("book(" + i + ", " + w + ")", one.book(i, w), other.book(i, w));
            }
            case 7 -> due("eldest()", one.eldest(), other.eldest());
            case 8 -> due("widest()", one.widest(), other.widest());
            case 9 -> due("mirror()", bit(one.mirror()), bit(other.mirror()));
            case 10 -> due("crossed()", one.crossed(), other.crossed());
            case 11 -> due("nested()", one.nested(), other.nested());
            case 12 -> due("spread()", one.spread(), other.spread());
            case 13 -> due("room()", one.room(), other.room());
            default -> {
                w = what(4);
                due("ledger(" + w + ")", one.ledger(w), other.ledger(w));
                due("about(" + w + ")", one.about(w), other.about(w));
                due("whose()", one.whose(), other.whose());
            }
        }
    }

    // ---- what is asked

    private void ask() {
        int s = set();
        int g = gaps(s);
        int k = number();
        int n;
        switch (random.nextInt(18)) {
            case 0 -> {
                n = near(random.nextInt(8) == 0 ? random.nextInt(70) - 4 : 1 + random.nextInt(20));
                due("foretold(" + n + ")", one.foretold(n), other.foretold(n));
            }
            case 1 -> due("can(" + k + ")", one.can(k), other.can(k));
            case 2 -> due("rows(" + s + ", " + g + ")", one.rows(s, g), other.rows(s, g));
            case 3 -> {
                n = near(random.nextInt(18) - 1);
                due("row(" + s + ", " + g + ", " + n + ")", one.row(s, g, n), other.row(s, g, n));
            }
            case 4 -> {
                n = near(random.nextInt(18) - 1);
                long all = other.rows(s, g);
                int i = near(all > 0 ? random.nextInt((int) all + 1) : random.nextInt(3) - 1);
                due("rowAt(" + s + ", " + g + ", " + i + ", " + n + ")", one.rowAt(s, g, i, n), other.rowAt(s, g, i, n));
            }
            case 5 -> {
                n = near(random.nextInt(18) - 1);
                due("often(" + s + ", " + g + ", " + k + ", " + n + ")", one.often(s, g, k, n), other.often(s, g, k, n));
            }
            case 6 -> due("pinned(" + s + ", " + g + ")", one.pinned(s, g), other.pinned(s, g));
            case 7 -> due("fewest(" + s + ")", one.fewest(s), other.fewest(s));
            case 8 -> due("kinds(" + s + ", " + g + ")", one.kinds(s, g), other.kinds(s, g));
            case 9 -> due("rounds(" + s + ")", one.rounds(s), other.rounds(s));
            case 10 -> due("threes(" + s + ")", one.threes(s), other.threes(s));
            case 11 -> due("ways(" + s + ")", one.ways(s), other.ways(s));
            case 12 -> due("fill(" + s + ", " + k + ")", one.fill(s, k), other.fill(s, k));
            case 13 -> due("forced(" + s + ")", one.forced(s), other.forced(s));
            case 14 -> due("stay(" + s + ")", one.stay(s), other.stay(s));
            case 15 -> {
                boolean low = random.nextBoolean();
                due("likely(" + s + ", " + low + ")", one.likely(s, low), other.likely(s, low));
            }
            case 16 -> {
                boolean many = random.nextBoolean();
                n = near(random.nextInt(10) == 0 ? random.nextInt(20) - 1 : 1 + random.nextInt(12));
                due("most(" + n + ", " + many + ")", one.most(n, many), other.most(n, many));
            }
            default -> {
                n = near(random.nextInt(12) == 0 ? random.nextInt(14) - 1 : 1 + random.nextInt(10));
                due("game(" + n + ", " + s + ")", one.game(n, s), other.game(n, s));
                due("play(" + n + ", " + s + ")", one.play(n, s), other.play(n, s));
            }
        }
    }

    // ---- texts

    private static final String[] SPOILERS = {"(", ")", "not", "stands", "free", "if", "then", "else", "end", "and", "or",
        "-", "+", "*", "/", "<", "<=", "=<", "=", "#", ";", "at", "between", "tires", "long", "join", "leave", "turn", "day",
        "number", "walk", "since", "first", "last", "0", "7", "9999", "10000", "00016", "99999999999", "Between", "x", "!",
        "\u0000", "\u00e9", "\t", "\n", " ", "notnot", "1 2", "day1"};

    private int feedText() {
        String text = drawnText();
        if (random.nextInt(3) == 0) {
            for (int i = random.nextInt(3); i >= 0; i--) {
                text = spoiled(text);
            }
        }
        if (text.length() > 300) {
            text = text.substring(0, 300);
        }
        int calls = 0;
        if (random.nextInt(20) != 0) {
            due("end(0)", one.end(0), other.end(0));
            calls++;
        }
        int begun = other.tape.size();
        StringBuilder padded = new StringBuilder(text);
        while (padded.length() % 20 != 0) {
            padded.append((char) random.nextInt(256));
        }
        for (int i = 0; i < padded.length(); i += 20) {
            int[] w = new int[5];
            for (int j = 0; j < 20; j++) {
                w[j / 4] = w[j / 4] << 8 | padded.charAt(i + j) & 255;
            }
            due("feed(" + w[0] + ", " + w[1] + ", " + w[2] + ", " + w[3] + ", " + w[4] + ")",
                    one.feed(w[0], w[1], w[2], w[3], w[4]), other.feed(w[0], w[1], w[2], w[3], w[4]));
            calls++;
        }
        int n = near(begun + text.length() + (random.nextInt(20) == 0 ? random.nextInt(9) - 4 : 0));
        told.append("# ").append(text).append('\n');
        due("end(" + n + ")", one.end(n), other.end(n));
        due("about(4)", one.about(4), other.about(4));
        due("text()", one.text(), other.text());
        due("fault(0)", one.fault(0), other.fault(0));
        due("fault(1)", one.fault(1), other.fault(1));
        due("about(4)", one.about(4), other.about(4));
        if (other.fault == 0 && random.nextBoolean()) {
            int t = other.all.texts.size() - 1;
            due("by(" + t + ")", bit(one.by(t)), bit(other.by(t)));
        } else if (other.all.texts.size() == 4 && random.nextBoolean()) {
            due("back()", one.back(), other.back());
        }
        int w = near(random.nextInt(5) - 2);
        due("fault(" + w + ")", one.fault(w), other.fault(w));
        return calls + 8;
    }

    private String spoiled(String text) {
        int at = random.nextInt(text.length() + 1);
        int to = Math.min(text.length(), at + (random.nextBoolean() ? 0 : random.nextInt(4)));
        String put = random.nextInt(3) == 0 ? "" : SPOILERS[random.nextInt(SPOILERS.length)];
        String around = random.nextInt(3) == 0 ? "" : " ";
        return text.substring(0, at) + around + put + around + text.substring(to);
    }

    private String drawnText() {
        StringBuilder text = new StringBuilder();
        boolean between = false, tires = false;
        int clauses = random.nextInt(12) == 0 ? 22 + random.nextInt(6) : 1 + random.nextInt(7);
        for (int i = 0; i < clauses; i++) {
            int kind = random.nextInt(clauses > 20 ? 30 : 8);
            if (kind == 0 && (!between || random.nextInt(8) == 0)) {
                between = true;
                text.append("between ").append(sum(random.nextInt(4), false)).append(';');
            } else if (kind == 1 && (!tires || random.nextInt(8) == 0)) {
                tires = true;
                text.append("tires ").append(sum(random.nextInt(4), true)).append(';');
            } else if (kind == 2) {
                text.append("long ").append(8 + random.nextInt(9)).append(';');
            } else if (kind < 5) {
                text.append("join ").append(1 + random.nextInt(8)).append(" at ").append(random.nextInt(12)).append(';');
            } else if (kind == 5) {
                text.append("leave ").append(1 + random.nextInt(8)).append(" ; ");
            } else if (kind == 6) {
                text.append("day ").append(1 + random.nextInt(random.nextInt(4) == 0 ? 60 : 3)).append(';');
            } else {
                text.append("turn;");
            }
            if (random.nextInt(8) == 0) {
                text.append('\n');
            }
        }
        return text.toString();
    }

    private String sum(int depth, boolean tires) {
        StringBuilder s = new StringBuilder(product(depth, tires));
        for (int i = random.nextInt(3); i > 0; i--) {
            s.append(random.nextBoolean() ? "+" : " - ").append(product(depth, tires));
        }
        return s.toString();
    }

    private String product(int depth, boolean tires) {
        StringBuilder s = new StringBuilder(single(depth, tires));
        for (int i = random.nextInt(4) - 2; i > 0; i--) {
            s.append(random.nextBoolean() ? "*" : "/").append(single(depth, tires));
        }
        return s.toString();
    }

    private String single(int depth, boolean tires) {
        if (depth <= 0 || random.nextInt(3) == 0) {
            String[] names = tires ? new String[] {"day", "number", "long", "walk", "since", "first"}
                    : new String[] {"number", "number", "number", "day", "number", "long", "walk", "last"};
            return random.nextBoolean() ? names[random.nextInt(names.length)]
                    : String.valueOf(random.nextInt(random.nextInt(6) == 0 ? 10000 : 6));
        }
        return switch (random.nextInt(7)) {
            case 0 -> "(" + sum(depth - 1, tires) + ")";
            case 1 -> "-" + single(depth - 1, tires);
            case 2 -> "stands " + single(depth - 1, tires);
            case 3 -> "free " + single(depth - 1, tires);
            case 4 -> random.nextInt(10) == 0 ? "((((- - -stands free(" + sum(depth - 1, tires) + ")))))"
                    : "(" + sum(depth - 1, tires) + ")";
            default -> "if " + either(depth - 1, tires) + " then " + sum(depth - 1, tires) + " else "
                    + sum(depth - 1, tires) + " end";
        };
    }

    private String either(int depth, boolean tires) {
        StringBuilder s = new StringBuilder(asked(depth, tires));
        for (int i = random.nextInt(3); i > 0; i--) {
            s.append(random.nextBoolean() ? " or " : " and ").append(asked(depth, tires));
        }
        return s.toString();
    }

    private String asked(int depth, boolean tires) {
        String[] relations = {"<", "<=", ">", ">=", "=", "#"};
        String not = random.nextInt(4) == 0 ? "not " : "";
        return not + sum(depth - 1, tires) + relations[random.nextInt(6)] + sum(depth - 1, tires);
    }
}
