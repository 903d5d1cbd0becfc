import java.io.IOException;
import java.nio.file.Files;
import java.nio.file.Path;

/** What the tests of the edges share: the sentence that is looked at, answers that are due, objects to try. */
final class Edge {
    static final int NONE = Procession.NONE;
    static final int MIN = Integer.MIN_VALUE;
    static final int MAX = Integer.MAX_VALUE;

    interface Call {
        long of(Procession x);
    }

    interface Ask {
        boolean of(Procession x);
    }

    interface Maker {
        Procession make();
    }

    private static Document document = null;
    private static String sentence = "";
    private static int looked = 0;
    private static int wrong = 0;

    private Edge() {
    }

    /** .ci/run tells where the document is; without it the sentences are not held against it. */
    static void open() throws IOException {
        String path = System.getProperty("doc");
        if (path != null && Files.exists(Path.of(path))) {
            document = new Document(Path.of(path));
        }
    }

    /** From here on that sentence of a promise (0: of the terms) is looked at. */
    static void told(int promise, String words) {
        endSentence();
        sentence = (promise == 0 ? "Terms: " : "Promise " + promise + ": ") + words;
        looked = 0;
        if (document != null && !document.quote(promise, words)) {
            fail("the document has no such sentence");
        }
    }

    private static void endSentence() {
        if (!sentence.isEmpty() && looked == 0) {
            fail("no test looks at it");
        }
    }

    private static void fail(String what) {
        wrong++;
        System.out.println("[" + sentence + "] " + what);
    }

    /** How many faults there were; a sentence of the document that no test looks at is one. */
    static int close() {
        endSentence();
        String left = document == null ? "" : document.unquoted();
        if (!left.isEmpty()) {
            sentence = "of the document";
            fail("no test looks at:\n" + left);
        }
        return wrong;
    }

    // ---- answers

    static void due(String call, long got, long want) {
        looked++;
        if (got != want) {
            fail(call + " answered " + got + ", due is " + want);
        }
    }

    static void due(String call, boolean got, boolean want) {
        due(call, got ? 1 : 0, want ? 1 : 0);
    }

    /** A call that changes nothing (but what it answers) on a new object and on a busy one. */
    static void idle(String name, Call call, long want) {
        idleOn(Procession::new, name, call, want);
        idleOn(Edge::busy, name + " of a busy one", call, want);
    }

    static void idle(String name, Ask ask, boolean want) {
        idle(name, x -> ask.of(x) ? 1 : 0, want ? 1 : 0);
    }

    static void idleOn(Maker maker, String name, Call call, long want) {
        Procession x = maker.make();
        String before = reading(x) + state(x);
        due(name, call.of(x), want);
        String after = reading(x) + state(x);
        looked++;
        if (!before.equals(after)) {
            fail(name + " changed\n  " + before + "to\n  " + after);
        }
    }

    static void idleOn(Maker maker, String name, Ask ask, boolean want) {
        idleOn(maker, name, x -> ask.of(x) ? 1 : 0, want ? 1 : 0);
    }

    /** What can be seen of the tape and the latest fault. */
    private static String reading(Procession x) {
        return x.about(4) + " " + x.fault(0) + " " + x.fault(1) + "; ";
    }

    /** What can be seen of all else. */
    static String state(Procession x) {
        StringBuilder all = new StringBuilder();
        for (int what = 0; what < 5; what++) {
            all.append(x.is(what)).append(' ').append(what < 4 ? x.about(what) : x.whose()).append(", ");
        }
        for (int number = 1; number <= 8; number++) {
            for (int what = 0; what < 5; what++) {
                all.append(x.of(number, what)).append(' ');
            }
        }
        all.append("book");
        for (int i = 0; i < x.book(NONE, 0); i++) {
            for (int what = 0; what < 4; what++) {
                all.append(' ').append(x.book(i, what));
            }
            all.append(',');
        }
        return all.append('\n').toString();
    }

    // ---- objects

    static void put(Procession x, String text) {
        x.end(0);
        for (int from = 0; from < text.length(); from += 20) {
            int[] words = new int[5];
            for (int i = 0; i < 20; i++) {
                int sign = from + i < text.length() ? text.charAt(from + i) & 255 : 0;
                words[i / 4] = words[i / 4] << 8 | sign;
            }
            x.feed(words[0], words[1], words[2], words[3], words[4]);
        }
        x.end(text.length());
    }

    static int read(Procession x, String text) {
        put(x, text);
        return x.text();
    }

    static Procession ruledBy(String text) {
        Procession x = new Procession();
        due("text of '" + text + "'", read(x, text), 0);
        x.by(0);
        return x;
    }

    /** Eight places, 2 at 0 and 3, 1 at 4 and 6, a day old, nobody tires; a fault, something said, a tape. */
    static Procession busy() {
        Procession x = new Procession();
        read(x, "between number;tires 0;");
        read(x, "tires (;");
        x.by(0);
        x.join(2, 0);
        x.join(1, 4);
        x.day(1);
        x.said(1, 1);
        put(x, "turn;");
        return x;
    }

    /** DAY 9999, nobody stands; THE TEXT is the one told. */
    static Procession lastDay(String text) {
        Procession x = ruledBy(text);
        for (int i = 0; i < 166; i++) {
            x.day(60);
        }
        x.day(39);
        due("is(0) of the last day", x.is(0), 9999);
        return x;
    }

    static String many(String part, int times) {
        return part.repeat(times);
    }
}
