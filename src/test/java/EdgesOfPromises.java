/** The promises one by one: what each call answers at its bounds, and of others, which change nothing. */
final class EdgesOfPromises {
    private static final int NONE = Edge.NONE;
    private static final int MIN = Edge.MIN;
    private static final int MAX = Edge.MAX;

    private EdgesOfPromises() {
    }

    static void run() {
        newObject();
        feed();
        end();
        text();
        fault();
        by();
        length();
        join();
        leave();
        turn();
        shift();
        day();
        played();
        years();
        undo();
        of();
        at();
        is();
        book();
        foretoldAndCan();
        rows();
        rowAndRowAt();
        often();
        pinnedToKinds();
        roundsAndThrees();
        waysToStay();
        likelyAndMost();
        gameAndPlay();
        saidAndWhose();
        looks();
        ledger();
        imageAndBack();
        about();
    }

    private static void due(String call, long got, long want) {
        Edge.due(call, got, want);
    }

    private static void due(String call, boolean got, boolean want) {
        Edge.due(call, got, want);
    }

    // ---- 1 to 6

    private static void newObject() {
        Edge.told(1, "Eight places, nobody;");
        Procession x = new Procession();
        due("is(2)", x.is(2), 8);
        due("is(3)", x.is(3), 0);
        due("is(4)", x.is(4), 255);
        for (int place = 0; place < 8; place++) {
            due("at(" + place + ")", x.at(place), 0);
        }
        Edge.told(1, "THE IMAGE is this.");
        String fresh = Edge.state(new Procession());
        x = new Procession();
        due("back() at once", x.back(), 0);
        due("all is new", Edge.state(x).equals(fresh), true);
        x = Edge.busy();
        due("back() of a busy one", x.back(), 0);
        due("all is new", Edge.state(x).equals(fresh), true);
        due("undo()", x.undo(), NONE);
    }

    private static void feed() {
        Edge.told(2, "Twenty bytes come behind the tape, the highest of a first: how many it has.");
        Procession x = new Procession();
        // "tires since*day+999;" and "turn;day 1;day 60;  "
        due("feed", x.feed(0x74697265, 0x73207369, 0x6e63652a, 0x6461792b, 0x3939393b), 20);
        due("feed", x.feed(0x7475726e, 0x3b646179, 0x20313b64, 0x61792036, 0x303b2020), 40);
        due("text()", x.text(), 0);
        // words with their highest bit
        due("feed", x.feed(-1, MIN, MAX, 0, 1), 20);
        due("text() of byte 255", x.text(), NONE);
        due("fault(1)", x.fault(1), 0);
        due("feed of blanks", x.feed(0x20202020, 0x0a0a0a0a, 0x20202020, 0x20202020, 0x20208041), 20);
        due("text() of byte 128", x.text(), NONE);
        due("fault(1)", x.fault(1), 18);
        Edge.told(2, "NONE, and none come, if there would be more than 300.");
        x = new Procession();
        for (int i = 1; i <= 15; i++) {
            due("feed", x.feed(0x20202020, 0x20202020, 0x20202020, 0x20202020, 0x20202020), 20 * i);
        }
        due("feed at 300", x.feed(0, 0, 0, 0, 0), NONE);
        due("about(4)", x.about(4), 300);
        x.end(281);
        due("feed at 281", x.feed(0, 0, 0, 0, 0), NONE);
        due("about(4)", x.about(4), 281);
        due("text() of 281 blanks", x.text(), 0);
        Edge.put(x, Edge.many(" ", 280));
        due("feed at 280", x.feed(0x7475726e, 0x3b202020, 0x20202020, 0x20202020, 0x2020203b), 300);
        due("feed at 300", x.feed(0, 0, 0, 0, 0), NONE);
        due("text()", x.text(), NONE);
        due("fault(1): the last byte", x.fault(1), 299);
    }

    private static void end() {
        Edge.told(3, "The tape has its first n bytes alone: n.");
        Procession x = new Procession();
        due("end(0) of an empty tape", x.end(0), 0);
        Edge.put(x, "turn;day 99;");
        due("end(12): all", x.end(12), 12);
        due("end(5)", x.end(5), 5);
        due("about(4)", x.about(4), 5);
        due("feed behind them", x.feed(0x7475726e, 0x3b202020, 0x20202020, 0x20202020, 0x20202020), 25);
        due("text()", x.text(), 0);
        Edge.put(x, "turn;");
        due("end(0)", x.end(0), 0);
        due("text() of nothing", x.text(), 1);
        Edge.told(3, "NONE, and nothing is done, if it has not so many, or n is below 0.");
        Edge.idle("end(-1)", y -> y.end(-1), NONE);
        Edge.idle("end(MIN)", y -> y.end(MIN), NONE);
        Edge.idle("end(MAX)", y -> y.end(MAX), NONE);
        Edge.idle("end(6): five at most", y -> y.end(6), NONE);
        Edge.idleOn(Procession::new, "end(1) of an empty tape", y -> y.end(1), NONE);
        x = new Procession();
        Edge.put(x, "turn;day 99;");
        x.end(5);
        due("end(12): those that are gone don't come again", x.end(12), NONE);
        due("about(4)", x.about(4), 5);
        due("end(301)", x.end(301), NONE);
        due("text()", x.text(), 0);
        due("end(5) of a tape that was read", x.end(5), NONE);
    }

    private static void text() {
        Edge.told(4, "The tape (empty then) is a TEXT: its number.");
        Procession x = new Procession();
        due("text() of an empty tape", x.text(), 0);
        due("text 1", Edge.read(x, "turn;"), 1);
        due("about(4)", x.about(4), 0);
        due("text 2", Edge.read(x, " \n"), 2);
        due("about(4)", x.about(4), 0);
        due("text 3: an empty tape again", x.text(), 3);
        Edge.told(4, "NONE: it has a FAULT;");
        x = new Procession();
        due("a fault", Edge.read(x, "turn"), NONE);
        due("about(0)", x.about(0), 0);
        due("about(4)", x.about(4), 0);
        due("text 0", Edge.read(x, "turn;"), 0);
        due("a fault", Edge.read(x, "day 0;"), NONE);
        due("about(0)", x.about(0), 1);
        due("played(1)", x.played(1), -2);
        Edge.told(4, "or (the tape stays) there are 4.");
        for (int i = 1; i < 4; i++) {
            due("text " + i, Edge.read(x, "turn;"), i);
        }
        Edge.put(x, "turn;");
        due("a fifth", x.text(), NONE);
        due("about(4)", x.about(4), 5);
        due("about(0)", x.about(0), 4);
        due("fault(0)", x.fault(0), 0);
        Edge.put(x, "tires");
        due("a fifth with a fault", x.text(), NONE);
        due("about(4)", x.about(4), 5);
        due("it wasn't read", x.fault(0), 0);
        x.back();
        due("the tape, when there is room again", x.text(), NONE);
        due("fault(1)", x.fault(1), 5);
    }

    private static void fault() {
        Edge.told(5, "Of the latest text that was read: 0 its FAULT (0 without), 1 its place (NONE without).");
        Procession x = new Procession();
        Edge.read(x, "long 17;");
        due("fault(0)", x.fault(0), 2);
        due("fault(1)", x.fault(1), 5);
        due("fault(0) is asked again", x.fault(0), 2);
        Edge.put(x, ";;;");
        due("fault(0): that tape wasn't read yet", x.fault(0), 2);
        Edge.read(x, "x;");
        due("fault(0)", x.fault(0), 1);
        due("fault(1) of the first byte", x.fault(1), 0);
        Edge.read(x, "turn;");
        due("fault(0) without", x.fault(0), 0);
        due("fault(1) without", x.fault(1), NONE);
        Edge.told(5, "NONE for others, and ahead of any.");
        x = new Procession();
        due("fault(0) ahead of any", x.fault(0), NONE);
        due("fault(1) ahead of any", x.fault(1), NONE);
        for (int what : new int[] {-1, -2, 2, 3, MIN, MAX}) {
            Edge.idle("fault(" + what + ")", y -> y.fault(what), NONE);
        }
    }

    private static void by() {
        Edge.told(6, "THE TEXT (NONE: none): true.");
        Procession x = new Procession();
        due("by(NONE) of none", x.by(NONE), true);
        for (int i = 0; i < 4; i++) {
            Edge.read(x, "between " + (9 + i) + ";");
            due("about(1): reading doesn't tell it", x.about(1), NONE);
        }
        for (int i = 0; i < 4; i++) {
            due("by(" + i + ")", x.by(i), true);
            due("about(1)", x.about(1), i);
            due("of(1, 3)", x.of(1, 3), 9 + i);
        }
        due("by(3) again", x.by(3), true);
        due("by(NONE)", x.by(NONE), true);
        due("about(1)", x.about(1), NONE);
        Edge.told(6, "False for others.");
        Edge.idle("by(-2)", y -> y.by(-2), false);
        Edge.idle("by(1)", y -> y.by(1), false);
        Edge.idle("by(4)", y -> y.by(4), false);
        Edge.idle("by(MIN)", y -> y.by(MIN), false);
        Edge.idle("by(MAX)", y -> y.by(MAX), false);
        Edge.idleOn(Procession::new, "by(0) without texts", y -> y.by(0), false);
        due("by(4) of four", x.by(4), false);
        x.back();
        due("by(0) of texts that are no more", x.by(0), false);
    }

    // ---- 7 to 15

    private static void length() {
        Edge.told(7, "LENGTH other: true.");
        Procession x = new Procession();
        for (int places = 16; places >= 1; places--) {
            due("length(" + places + ")", x.length(places), true);
        }
        due("is(2)", x.is(2), 1);
        Edge.told(7, "False, if it can't be, and for others (1 .. 16).");
        for (int places : new int[] {0, -1, 17, 32, 33, MIN, MAX}) {
            Edge.idle("length(" + places + ")", y -> y.length(places), false);
        }
        Edge.idle("length(8) as it is", y -> y.length(8), false);
        Edge.idleOn(Edge::busy, "length(6): 1 stands at 6", y -> y.length(6), false);
        Edge.idleOn(Edge::busy, "length(1)", y -> y.length(1), false);
        due("length(7)", Edge.busy().length(7), true);
    }

    private static void join() {
        Edge.told(8, "JOINED: the second place.");
        Procession x = new Procession();
        for (int number = 1; number <= 6; number++) {
            due("join(" + number + ", 0)", x.join(number, 0), number + 1);
            x.leave(number);
        }
        x.length(16);
        due("join(8, 6)", x.join(8, 6), 15);
        due("join(7, 5)", x.join(7, 5), 13);
        Edge.told(8, "NONE, if it can't be, and for others.");
        for (int other : new int[] {0, -1, 9, 33, MIN, MAX}) {
            Edge.idle("join(" + other + ", 1)", y -> y.join(other, 1), NONE);
        }
        for (int place : new int[] {-1, -2, 8, 16, 32, 33, MIN, MAX}) {
            Edge.idle("join(3, " + place + ")", y -> y.join(3, place), NONE);
        }
        Edge.idle("join(3, 4): the second isn't there", y -> y.join(3, 4), NONE);
        Edge.idle("join(7, 0): the second isn't there", y -> y.join(7, 0), NONE);
        Edge.idleOn(Edge::busy, "join(1, 5): it stands", y -> y.join(1, 5), NONE);
        Edge.idleOn(Edge::busy, "join(3, 3): the first is taken", y -> y.join(3, 3), NONE);
        Edge.idleOn(Edge::busy, "join(3, 2): the second is taken", y -> y.join(3, 2), NONE);
    }

    private static void leave() {
        Edge.told(9, "LEFT: true.");
        Procession x = Edge.ruledBy("between 0;");
        x.length(16);
        for (int number = 1; number <= 8; number++) {
            x.join(number, 2 * number - 2);
        }
        for (int number = 1; number <= 8; number++) {
            due("leave(" + number + ")", x.leave(number), true);
        }
        due("is(3)", x.is(3), 0);
        Edge.told(9, "False, if it doesn't stand, and for others.");
        for (int number : new int[] {0, -1, 3, 8, 9, 33, MIN, MAX}) {
            Edge.idle("leave(" + number + ")", y -> y.leave(number), false);
        }
        due("leave(8) again", x.leave(8), false);
    }

    private static void turn() {
        Edge.told(10, "TURNED: how many numbers stand.");
        Procession x = new Procession();
        x.join(1, 0);
        due("turn() of one", x.turn(), 1);
        due("turn() of two", Edge.busy().turn(), 2);
        Edge.told(10, "NONE: none does.");
        Edge.idleOn(Procession::new, "turn()", y -> y.turn(), NONE);
        x.leave(1);
        due("turn() when it has left", x.turn(), NONE);
    }

    private static void shift() {
        Edge.told(11, "SHIFTED: true.");
        Procession x = Edge.ruledBy("between 0;");
        x.length(16);
        x.join(1, 0);
        for (int by = 14; by >= 1; by--) {
            due("shift(" + by + ")", x.shift(by), true);
            due("shift(" + -by + ")", x.shift(-by), true);
        }
        due("of(1, 0)", x.of(1, 0), 0);
        Edge.told(11, "False, if it can't be, and for others (-15 .. 15, not 0).");
        for (int by : new int[] {0, 2, -1, 15, -15, 16, -16, 32, -32, MIN, MAX}) {
            Edge.idle("shift(" + by + ")", y -> y.shift(by), false);
        }
        Edge.idleOn(Procession::new, "shift(1) of nobody", y -> y.shift(1), false);
    }

    private static void day() {
        Edge.told(12, "DAYS pass (1 .. 60): how many numbers leave in them.");
        Procession x = new Procession();
        due("day(1) of nobody", x.day(1), 0);
        due("day(60) of nobody", x.day(60), 0);
        due("is(0)", x.is(0), 61);
        x = Edge.ruledBy("tires if since>number then 10 else 0 end;");
        x.join(1, 0);
        x.join(2, 1);
        x.join(3, 3);
        due("day(1)", x.day(1), 0);
        due("day(2): 1, then 2", x.day(2), 2);
        due("day(60): 3", x.day(60), 1);
        due("is(0)", x.is(0), 63);
        Edge.told(12, "NONE for others, or beyond 9999 (nothing is done then).");
        for (int n : new int[] {0, -1, 61, 10000, MIN, MAX}) {
            Edge.idle("day(" + n + ")", y -> y.day(n), NONE);
        }
        Edge.idleOn(() -> Edge.lastDay("tires 10;"), "day(1) at 9999", y -> y.day(1), NONE);
        x = Edge.lastDay("tires 10;");
        x.undo();
        x.undo();
        x.join(1, 0);
        due("is(0)", x.is(0), 9997);
        due("day(3) at 9997", x.day(3), NONE);
        due("is(0)", x.is(0), 9997);
        due("is(3)", x.is(3), 1);
        due("day(2) at 9997", x.day(2), 1);
        due("is(0)", x.is(0), 9999);
    }

    private static void played() {
        Edge.told(13, "PLAYED by a TEXT: NONE: all is done;");
        Procession x = new Procession();
        Edge.read(x, "long 9;join 1 at 0;turn;day 1;leave 1;");
        due("played(0)", x.played(0), NONE);
        due("book(-1, 0)", x.book(NONE, 0), 2);
        due("about(2)", x.about(2), 5);
        Edge.told(13, "else the number of the CLAUSE that can't be.");
        due("played(0): LENGTH is 9", x.played(0), 0);
        Edge.read(x, "tires 1;between 1;leave 1;");
        due("played(1): laws are counted", x.played(1), 2);
        Edge.told(13, "-2 for others.");
        for (int text : new int[] {NONE, -2, 1, 3, 4, MIN, MAX}) {
            Edge.idle("played(" + text + ")", y -> y.played(text), -2);
        }
        Edge.idleOn(Procession::new, "played(0) without texts", y -> y.played(0), -2);
        x.back();
        due("played(0) of texts that are no more", x.played(0), -2);
    }

    private static void years() {
        Edge.told(14, "YEARS: DAY.");
        Procession x = new Procession();
        due("years(0, 1): a day", x.years(0, 1), 1);
        due("years(2, 1): nothing", x.years(2, 1), 1);
        due("years(9999, 1): a day", x.years(9999, 1), 2);
        due("is(0)", x.is(0), 2);
        int day = x.years(9999, 40);
        due("years(9999, 40)", day, x.is(0));
        due("about(2)", x.about(2), 4);
        Edge.told(14, "NONE for others.");
        for (int seed : new int[] {-1, 10000, MIN, MAX}) {
            Edge.idle("years(" + seed + ", 1)", y -> y.years(seed, 1), NONE);
        }
        for (int n : new int[] {0, -1, 41, MIN, MAX}) {
            Edge.idle("years(0, " + n + ")", y -> y.years(0, n), NONE);
        }
    }

    private static void undo() {
        Edge.told(15, "The latest STEP is taken back: how many can be yet.");
        Procession x = Edge.busy();
        due("undo()", x.undo(), 2);
        due("undo()", x.undo(), 1);
        due("undo()", x.undo(), 0);
        due("is(3)", x.is(3), 0);
        x.day(60);
        due("undo() of thirty", x.undo(), 29);
        Edge.told(15, "NONE: there is none.");
        Edge.idleOn(Procession::new, "undo()", y -> y.undo(), NONE);
        x = new Procession();
        x.length(9);
        x.undo();
        due("undo() again", x.undo(), NONE);
        due("is(2)", x.is(2), 8);
        due("about(2)", x.about(2), 0);
    }

    // ---- 16 to 21

    private static void of() {
        Edge.told(16, "Of a number: 0 its first, 1 its second place (NONE: it doesn't stand), 2 SINCE, 3 between, 4 tires now.");
        Procession x = Edge.busy();
        int[] two = {0, 3, 1, 2, 0};
        int[] three = {NONE, NONE, 0, 3, 0};
        for (int what = 0; what < 5; what++) {
            due("of(2, " + what + ")", x.of(2, what), two[what]);
            due("of(3, " + what + ")", x.of(3, what), three[what]);
        }
        due("of(8, 3)", x.of(8, 3), 8);
        x.by(NONE);
        due("of(8, 4)", x.of(8, 4), 1);
        Edge.told(16, "-2 for others.");
        for (int other : new int[] {-1, 5, 6, MIN, MAX}) {
            Edge.idle("of(1, " + other + ")", y -> y.of(1, other), -2);
        }
        for (int other : new int[] {0, -1, 9, 33, MIN, MAX}) {
            Edge.idle("of(" + other + ", 0)", y -> y.of(other, 0), -2);
            Edge.idle("of(" + other + ", 3)", y -> y.of(other, 3), -2);
        }
    }

    private static void at() {
        Edge.told(17, "Who stands at a place (0: nobody).");
        Procession x = Edge.busy();
        int[] row = {2, 0, 0, 2, 1, 0, 1, 0};
        for (int place = 0; place < 8; place++) {
            due("at(" + place + ")", x.at(place), row[place]);
        }
        Edge.told(17, "NONE for others.");
        for (int place : new int[] {-1, 8, 16, 32, MIN, MAX}) {
            Edge.idle("at(" + place + ")", y -> y.at(place), NONE);
        }
        x.length(7);
        due("at(6), the last", x.at(6), 1);
        due("at(7), no place any more", x.at(7), NONE);
    }

    private static void is() {
        Edge.told(18, "0 DAY, 1 X, 2 LENGTH, 3 numbers that stand (bits), 4 places that are free (bits).");
        Procession x = Edge.busy();
        int[] all = {1, 27915, 8, 3, 2 | 4 | 32 | 128};
        for (int what = 0; what < 5; what++) {
            due("is(" + what + ")", x.is(what), all[what]);
        }
        x.length(16);
        due("is(4) of sixteen", x.is(4), 2 | 4 | 32 | 0xff80);
        Edge.told(18, "-2 for others.");
        for (int what : new int[] {-1, 5, 6, MIN, MAX}) {
            Edge.idle("is(" + what + ")", y -> y.is(what), -2);
        }
    }

    private static void book() {
        Edge.told(19, "BOOK: how many (i NONE); the i-th, from the eldest on: 0 DAY, 1 the number, 2 what (0 joined, 1 left, 2 "
                + "gone tired), 3 its first place.");
        Procession x = Edge.ruledBy("tires 10;");
        due("book(-1, 0) of none", x.book(NONE, 0), 0);
        x.length(16);
        x.join(8, 6);
        x.day(1);
        x.join(1, 13);
        x.leave(1);
        due("book(-1, 0)", x.book(NONE, 0), 4);
        due("book(-1, 3)", x.book(NONE, 3), 4);
        int[][] lines = {{0, 8, 0, 6}, {0, 8, 2, 6}, {1, 1, 0, 13}, {1, 1, 1, 13}};
        for (int i = 0; i < 4; i++) {
            for (int what = 0; what < 4; what++) {
                due("book(" + i + ", " + what + ")", x.book(i, what), lines[i][what]);
            }
        }
        Procession late = Edge.lastDay("");
        late.join(6, 0);
        due("book(0, 0) of the last day", late.book(0, 0), 9999);
        due("book(0, 1)", late.book(0, 1), 6);
        Edge.told(19, "-2 if there is none such, and for others.");
        due("book(4, 0)", x.book(4, 0), -2);
        due("book(3, 4)", x.book(3, 4), -2);
        Edge.idleOn(Procession::new, "book(0, 0) of none", y -> y.book(0, 0), -2);
        for (int i : new int[] {-2, 2, 24, 25, MIN, MAX}) {
            Edge.idle("book(" + i + ", 0)", y -> y.book(i, 0), -2);
        }
        for (int what : new int[] {-1, 4, 5, MIN, MAX}) {
            Edge.idle("book(0, " + what + ")", y -> y.book(0, what), -2);
        }
    }

    private static void foretoldAndCan() {
        Edge.told(20, "FORETOLD: numbers that stand (bits).");
        Procession x = Edge.ruledBy("tires if since>number then 10 else 0 end;");
        x.join(1, 0);
        x.join(2, 1);
        x.join(3, 3);
        int[] stand = {7, 6, 4, 0};
        for (int n = 1; n <= 4; n++) {
            due("foretold(" + n + ")", x.foretold(n), stand[n - 1]);
        }
        due("foretold(60)", x.foretold(60), 0);
        due("foretold(1) of nobody", new Procession().foretold(1), 0);
        Edge.told(20, "NONE for others.");
        for (int n : new int[] {0, -1, 61, MIN, MAX}) {
            Edge.idle("foretold(" + n + ")", y -> y.foretold(n), NONE);
        }
        Edge.told(21, "CAN JOIN: places (bits).");
        x = new Procession();
        int[] places = {63, 31, 15, 7, 3, 1, 0, 0};
        for (int number = 1; number <= 8; number++) {
            due("can(" + number + ")", x.can(number), places[number - 1]);
        }
        Edge.told(21, "NONE for others.");
        for (int number : new int[] {0, -1, 9, 33, MIN, MAX}) {
            Edge.idle("can(" + number + ")", y -> y.can(number), NONE);
        }
    }

    // ---- 22 to 28

    /** Sets and gaps that are others for all calls about rows. */
    private static final int[][] NO_ROWS = {{-1, 0}, {256, 0}, {MIN, 0}, {MAX, 0}, {0, -1}, {0, 17}, {0, MIN}, {0, MAX},
        {1, 15}, {1, 16}, {7, 11}, {255, 1}, {255, 16}, {255, MAX}, {-1, -1}};

    private static void rows() {
        Edge.told(22, "ROWS: how many.");
        Procession x = new Procession();
        due("rows(0, 0)", x.rows(0, 0), 1);
        due("rows(1, 0)", x.rows(1, 0), 0);
        due("rows(255, 0)", x.rows(255, 0), 300);
        due("rows(7, 10)", x.rows(7, 10) > 0, true);
        Edge.told(22, "NONE for others.");
        for (int[] no : NO_ROWS) {
            Edge.idle("rows(" + no[0] + ", " + no[1] + ")", y -> y.rows(no[0], no[1]), NONE);
        }
    }

    private static void rowAndRowAt() {
        Edge.told(23, "THE LOWEST ROW: who stands at a place (0: nobody).");
        Procession x = new Procession();
        due("row(1, 1, 0)", x.row(1, 1, 0), 1);
        due("row(1, 1, 1)", x.row(1, 1, 1), 0);
        due("row(1, 14, 15): the lowest has it at the end", x.row(1, 14, 15), 1);
        due("row(1, 14, 0)", x.row(1, 14, 0), 0);
        Edge.told(23, "NONE: no row, and for others.");
        Edge.idle("row(1, 0, 0): no row", y -> y.row(1, 0, 0), NONE);
        Edge.idle("row(3, 0, 3): no row", y -> y.row(3, 0, 3), NONE);
        for (int[] no : NO_ROWS) {
            Edge.idle("row(" + no[0] + ", " + no[1] + ", 0)", y -> y.row(no[0], no[1], 0), NONE);
        }
        for (int place : new int[] {-1, 6, 16, 32, MIN, MAX}) {
            Edge.idle("row(7, 0, " + place + ")", y -> y.row(7, 0, place), NONE);
        }
        Edge.idle("row(0, 0, 0): no place", y -> y.row(0, 0, 0), NONE);
        Edge.told(24, "THE i-th ROW: who stands at a place (0: nobody).");
        due("rowAt(1, 14, 0, 15)", x.rowAt(1, 14, 0, 15), 1);
        due("rowAt(1, 14, 13, 0): the last of fourteen", x.rowAt(1, 14, 13, 0), 1);
        due("rowAt(1, 14, 13, 1)", x.rowAt(1, 14, 13, 1), 0);
        due("rowAt(0, 1, 0, 0)", x.rowAt(0, 1, 0, 0), 0);
        Edge.told(24, "NONE: there is none such, and for others.");
        Edge.idle("rowAt(1, 14, 14, 0)", y -> y.rowAt(1, 14, 14, 0), NONE);
        Edge.idle("rowAt(0, 1, 1, 0)", y -> y.rowAt(0, 1, 1, 0), NONE);
        Edge.idle("rowAt(1, 0, 0, 0)", y -> y.rowAt(1, 0, 0, 0), NONE);
        for (int i : new int[] {-1, 2, 3, MIN, MAX}) {
            Edge.idle("rowAt(7, 0, " + i + ", 0)", y -> y.rowAt(7, 0, i, 0), NONE);
        }
        for (int[] no : NO_ROWS) {
            Edge.idle("rowAt(" + no[0] + ", " + no[1] + ", 0, 0)", y -> y.rowAt(no[0], no[1], 0, 0), NONE);
        }
        for (int place : new int[] {-1, 6, 16, 32, MIN, MAX}) {
            Edge.idle("rowAt(7, 0, 1, " + place + ")", y -> y.rowAt(7, 0, 1, place), NONE);
        }
    }

    private static void often() {
        Edge.told(25, "OFTEN.");
        Procession x = new Procession();
        due("often(7, 0, 1, 1)", x.often(7, 0, 1, 1), 1);
        due("often(7, 0, 1, 0)", x.often(7, 0, 1, 0), 0);
        due("often(1, 0, 1, 0): no row", x.often(1, 0, 1, 0), 0);
        long all = 0;
        for (int place = 0; place < 16; place++) {
            all += x.often(255, 0, 8, place);
        }
        due("two places in each of 300 rows", all, 600);
        Edge.told(25, "NONE for others (a number of the set, a place).");
        for (int number : new int[] {0, -1, 2, 8, 9, 33, MIN, MAX}) {
            Edge.idle("often(5, 1, " + number + ", 0)", y -> y.often(5, 1, number, 0), NONE);
        }
        for (int place : new int[] {-1, 5, 16, 32, MIN, MAX}) {
            Edge.idle("often(5, 1, 1, " + place + ")", y -> y.often(5, 1, 1, place), NONE);
        }
        for (int[] no : NO_ROWS) {
            Edge.idle("often(" + no[0] + ", " + no[1] + ", 1, 0)", y -> y.often(no[0], no[1], 1, 0), NONE);
        }
    }

    private static void pinnedToKinds() {
        Procession x = new Procession();
        Edge.told(26, "PINNED: numbers (bits).");
        due("pinned(1, 1)", x.pinned(1, 1), 1);
        due("pinned(17, 3)", x.pinned(17, 3), 16);
        due("pinned(7, 0)", x.pinned(7, 0), 0);
        Edge.told(26, "NONE: no row, and for others.");
        Edge.idle("pinned(1, 0): no row", y -> y.pinned(1, 0), NONE);
        for (int[] no : NO_ROWS) {
            Edge.idle("pinned(" + no[0] + ", " + no[1] + ")", y -> y.pinned(no[0], no[1]), NONE);
        }
        Edge.told(27, "FEWEST GAPS.");
        due("fewest(0)", x.fewest(0), 0);
        due("fewest(1)", x.fewest(1), 1);
        due("fewest(128)", x.fewest(128), 8);
        Edge.told(27, "NONE: no row, and for others.");
        due("fewest(3) by 14: no row", Edge.ruledBy("between 14;").fewest(3), NONE);
        for (int set : new int[] {-1, 256, MIN, MAX}) {
            Edge.idle("fewest(" + set + ")", y -> y.fewest(set), NONE);
        }
        Edge.told(28, "KINDS: how many.");
        due("kinds(0, 0)", x.kinds(0, 0), 1);
        due("kinds(1, 0)", x.kinds(1, 0), 0);
        due("kinds(255, 0)", x.kinds(255, 0), 150);
        Edge.told(28, "NONE for others.");
        for (int[] no : NO_ROWS) {
            Edge.idle("kinds(" + no[0] + ", " + no[1] + ")", y -> y.kinds(no[0], no[1]), NONE);
        }
    }

    // ---- 29 to 38

    private static final int[] NO_SETS = {-1, -255, 256, 257, 511, MIN, MAX};

    private static void roundsAndThrees() {
        Procession x = new Procession();
        Edge.told(29, "ROUNDS: how many.");
        due("rounds(0)", x.rounds(0), 1);
        due("rounds(1)", x.rounds(1), 0);
        due("rounds(7)", x.rounds(7), 6);
        Edge.told(29, "NONE for others.");
        for (int set : NO_SETS) {
            Edge.idle("rounds(" + set + ")", y -> y.rounds(set), NONE);
        }
        Edge.told(30, "THREES: how many.");
        due("threes(0)", x.threes(0), 1);
        due("threes(31)", x.threes(31), 0);
        due("threes(31) by 0", Edge.ruledBy("between 0;").threes(31), 120);
        Edge.told(30, "NONE for others.");
        for (int set : NO_SETS) {
            Edge.idle("threes(" + set + ")", y -> y.threes(set), NONE);
        }
        for (int set : new int[] {63, 126, 252, 127, 255}) {
            Edge.idle("threes(" + set + "): above five", y -> y.threes(set), NONE);
        }
    }

    private static void waysToStay() {
        Procession x = Edge.busy();
        Edge.told(31, "WAYS: how many.");
        due("ways(0)", x.ways(0), 1);
        due("ways(4)", x.ways(4), 1);
        due("ways(128)", x.ways(128), 0);
        Edge.told(31, "NONE for others.");
        for (int set : NO_SETS) {
            Edge.idle("ways(" + set + ")", y -> y.ways(set), NONE);
        }
        Edge.told(32, "THE LOWEST WAY: the first place of a number.");
        due("fill(4, 3)", x.fill(4, 3), 1);
        due("fill(4, 2)", x.fill(4, 2), 0);
        due("fill(255, 8) by 0", ofSixteen().fill(255, 8), 14);
        Edge.told(32, "NONE: no way, and for others.");
        Edge.idle("fill(64, 7): no way", y -> y.fill(64, 7), NONE);
        Edge.idle("fill(64, 1): no way", y -> y.fill(64, 1), NONE);
        for (int number : new int[] {0, -1, 3, 9, 33, MIN, MAX}) {
            Edge.idle("fill(3, " + number + ")", y -> y.fill(3, number), NONE);
        }
        for (int set : NO_SETS) {
            Edge.idle("fill(" + set + ", 1)", y -> y.fill(set, 1), NONE);
        }
        Edge.told(33, "FORCED: numbers (bits).");
        due("forced(4)", x.forced(4), 4);
        due("forced(0)", x.forced(0), 0);
        due("forced(255) by 0: none", ofSixteen().forced(255), 0);
        Edge.told(33, "NONE: no way, and for others.");
        Edge.idle("forced(64): no way", y -> y.forced(64), NONE);
        for (int set : NO_SETS) {
            Edge.idle("forced(" + set + ")", y -> y.forced(set), NONE);
        }
        Edge.told(34, "WHO STAYS: numbers (bits).");
        due("stay(3)", x.stay(3), 3);
        due("stay(4)", x.stay(4), 0);
        due("stay(34)", x.stay(34), 0);
        Edge.told(34, "NONE: no way, and for others.");
        Edge.idle("stay(64): no way", y -> y.stay(64), NONE);
        for (int set : NO_SETS) {
            Edge.idle("stay(" + set + ")", y -> y.stay(set), NONE);
        }
    }

    private static Procession ofSixteen() {
        Procession x = Edge.ruledBy("between 0;");
        x.length(16);
        return x;
    }

    private static void likelyAndMost() {
        Procession x = new Procession();
        Edge.told(35, "LIKELY: the upper (low false), the lower one (low true).");
        due("likely(7, false)", x.likely(7, false), 1);
        due("likely(7, true)", x.likely(7, true), 12);
        due("likely(1, false)", x.likely(1, false), 0);
        due("likely(1, true)", x.likely(1, true), 1);
        Edge.told(35, "NONE for others.");
        for (int set : NO_SETS) {
            Edge.idle("likely(" + set + ", false)", y -> y.likely(set, false), NONE);
            Edge.idle("likely(" + set + ", true)", y -> y.likely(set, true), NONE);
        }
        Edge.told(36, "MOST: numbers (many false; bits), how many (many true).");
        due("most(1, false)", x.most(1, false), 0);
        due("most(1, true)", x.most(1, true), 0);
        due("most(6, false)", x.most(6, false), 7);
        due("most(6, true)", x.most(6, true), 3);
        due("most(16, true)", x.most(16, true), 8);
        Edge.told(36, "NONE for others (1 .. 16).");
        for (int places : new int[] {0, -1, 17, 32, MIN, MAX}) {
            Edge.idle("most(" + places + ", false)", y -> y.most(places, false), NONE);
            Edge.idle("most(" + places + ", true)", y -> y.most(places, true), NONE);
        }
    }

    private static void gameAndPlay() {
        Procession x = new Procession();
        Edge.told(37, "A GAME: 1 the one who begins wins, 0 the other one.");
        due("game(1, 1)", x.game(1, 1), 0);
        due("game(10, 1)", x.game(10, 1), 1);
        due("game(10, 31) of five", x.game(10, 31) >= 0, true);
        Edge.told(37, "NONE for others (1 .. 10; five numbers at most).");
        for (int places : new int[] {0, -1, 11, 16, 32, MIN, MAX}) {
            Edge.idle("game(" + places + ", 1)", y -> y.game(places, 1), NONE);
        }
        for (int set : NO_SETS) {
            Edge.idle("game(5, " + set + ")", y -> y.game(5, set), NONE);
        }
        for (int set : new int[] {63, 252, 127, 255}) {
            Edge.idle("game(5, " + set + "): above five", y -> y.game(5, set), NONE);
        }
        Edge.told(38, "A PLAY: 100 times the number, and its first place.");
        due("play(3, 1)", x.play(3, 1), 100);
        due("play(5, 3)", x.play(5, 3), 101);
        due("play(10, 128)", x.play(10, 128), 800);
        Edge.told(38, "NONE: none wins, and for others.");
        Edge.idle("play(2, 1): none wins", y -> y.play(2, 1), NONE);
        Edge.idle("play(10, 0): none wins", y -> y.play(10, 0), NONE);
        for (int places : new int[] {0, -1, 11, 16, 32, MIN, MAX}) {
            Edge.idle("play(" + places + ", 1)", y -> y.play(places, 1), NONE);
        }
        for (int set : NO_SETS) {
            Edge.idle("play(5, " + set + ")", y -> y.play(5, set), NONE);
        }
        for (int set : new int[] {63, 252, 127, 255}) {
            Edge.idle("play(5, " + set + "): above five", y -> y.play(5, set), NONE);
        }
    }

    // ---- 39 to 51

    private static void saidAndWhose() {
        Edge.told(39, "SAID: how many there are (number NONE: none any more).");
        Procession x = new Procession();
        due("said(NONE, 0) of none", x.said(NONE, 0), 0);
        for (int i = 1; i <= 8; i++) {
            due("said(" + i + ", 14)", x.said(i, i == 8 ? 0 : 14), i);
        }
        due("about(3)", x.about(3), 8);
        due("said(NONE, 0)", x.said(NONE, 0), 0);
        due("about(3)", x.about(3), 0);
        due("said(1, 1)", x.said(1, 1), 1);
        Edge.told(39, "-2 for others (0 .. 14), or if there are 8.");
        for (int number : new int[] {0, -2, 9, 33, MIN, MAX}) {
            Edge.idle("said(" + number + ", 1)", y -> y.said(number, 1), -2);
        }
        for (int between : new int[] {-1, 15, 16, MIN, MAX}) {
            Edge.idle("said(1, " + between + ")", y -> y.said(1, between), -2);
        }
        for (int i = 2; i <= 8; i++) {
            due("said " + i, x.said(1, 1), i);
        }
        due("said(1, 1) of eight", x.said(1, 1), -2);
        due("about(3)", x.about(3), 8);
        Edge.told(40, "WHOSE LAW (bits).");
        due("whose() without texts", new Procession().whose(), 0);
        for (int i = 0; i < 4; i++) {
            Edge.read(x, i % 2 == 0 ? "between 1;" : "between 2;");
        }
        due("whose()", x.whose(), 1 | 4);
        x.said(NONE, 0);
        due("whose() of nothing said", x.whose(), 15);
        x.said(5, 2);
        due("whose()", x.whose(), 2 | 8);
    }

    private static void looks() {
        Procession none = new Procession();
        Procession x = Edge.busy();
        Edge.told(41, "ELDEST.");
        due("eldest()", x.eldest(), 1);
        Edge.told(41, "NONE: none.");
        due("eldest() of nobody", none.eldest(), NONE);
        Edge.told(42, "WIDEST.");
        due("widest()", x.widest(), 2);
        Edge.told(42, "NONE: none.");
        due("widest() of nobody", none.widest(), NONE);
        Edge.told(43, "A MIRROR.");
        due("mirror() of nobody", none.mirror(), true);
        due("mirror()", x.mirror(), false);
        Edge.told(44, "CROSSED.");
        due("crossed() of nobody", none.crossed(), 0);
        due("crossed()", x.crossed(), 0);
        x.join(3, 1);
        // 23.2131.
        due("crossed()", x.crossed(), 2);
        Edge.told(45, "NESTED.");
        due("nested() of nobody", none.nested(), 0);
        due("nested()", x.nested(), 0);
        Edge.told(46, "SPREAD.");
        due("spread() of nobody", none.spread(), 0);
        due("spread()", x.spread(), 7);
        Edge.told(47, "ROOM.");
        due("room() of nobody", none.room(), 8);
        due("room()", x.room(), 1);
        x.leave(3);
        x.leave(1);
        x.join(4, 2);
        // 2.42...4
        due("room()", x.room(), 3);
    }

    private static void ledger() {
        Edge.told(48, "BY THE BOOK.");
        Procession x = Edge.busy();
        due("ledger(0)", x.ledger(0), 2);
        due("ledger(1)", x.ledger(1), 0);
        due("ledger(2)", x.ledger(2), 0);
        due("ledger(0) of none", new Procession().ledger(0), 0);
        Edge.told(48, "-2 for others (0 .. 2).");
        for (int what : new int[] {-1, 3, 4, MIN, MAX}) {
            Edge.idle("ledger(" + what + ")", y -> y.ledger(what), -2);
        }
    }

    private static void imageAndBack() {
        Edge.told(49, "THE IMAGE is as all is now: DAY.");
        Edge.idleOn(Edge::busy, "image()", y -> y.image(), 1);
        Edge.idleOn(Procession::new, "image()", y -> y.image(), 0);
        Procession x = Edge.busy();
        x.image();
        x.day(1);
        due("image() anew", x.image(), 2);
        x.day(5);
        due("back()", x.back(), 2);
        due("undo()", x.undo(), 3);
        Procession late = Edge.lastDay("");
        due("image() of the last day", late.image(), 9999);
        Edge.told(50, "BACK to THE IMAGE (it stays): DAY.");
        due("back() of the last day", late.back(), 9999);
        due("about(2)", late.about(2), 30);
        x = Edge.busy();
        x.image();
        String kept = Edge.state(x);
        x.leave(1);
        due("back()", x.back(), 1);
        due("all is so again", Edge.state(x).equals(kept), true);
        x.years(123, 40);
        x.undo();
        x.undo();
        x.undo();
        due("back() again", x.back(), 1);
        due("all is so again", Edge.state(x).equals(kept), true);
        due("back() at once", x.back(), 1);
        x.undo();
        x.undo();
        due("undo()", x.undo(), 0);
        due("undo() of none", x.undo(), NONE);
        due("back() from ahead of it", x.back(), 1);
        due("about(2)", x.about(2), 3);
    }

    private static void about() {
        Edge.told(51, "0 TEXTS, 1 THE TEXT (NONE), 2 STEPS that can be taken back, 3 SAID, 4 bytes of the tape.");
        Procession x = new Procession();
        int[] at = {0, NONE, 0, 0, 0};
        for (int what = 0; what < 5; what++) {
            due("about(" + what + ") at first", x.about(what), at[what]);
        }
        x = Edge.busy();
        int[] busy = {1, 0, 3, 1, 5};
        for (int what = 0; what < 5; what++) {
            due("about(" + what + ")", x.about(what), busy[what]);
        }
        Edge.told(51, "-2 for others.");
        for (int what : new int[] {-1, 5, 6, MIN, MAX}) {
            Edge.idle("about(" + what + ")", y -> y.about(what), -2);
        }
    }
}
