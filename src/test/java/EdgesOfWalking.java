/** The terms of I and V: the row, what is done by hand, days, steps, years and the image. */
final class EdgesOfWalking {
    private static final int NONE = Edge.NONE;

    private EdgesOfWalking() {
    }

    static void run() {
        numbers();
        lengths();
        since();
        counters();
        bookOf25();
        lengthOther();
        joined();
        left();
        turned();
        shifted();
        aDay();
        draws();
        lastDays();
        writtenDown();
        steps();
        stepsOfAllKinds();
        years();
        yearsThatCant();
        images();
    }

    private static void due(String call, long got, long want) {
        Edge.due(call, got, want);
    }

    private static void due(String call, boolean got, boolean want) {
        Edge.due(call, got, want);
    }

    /** All eight stand side by side in sixteen places. */
    private static Procession full() {
        Procession x = Edge.ruledBy("between 0;tires 0;");
        x.length(16);
        for (int number = 1; number <= 8; number++) {
            due("join(" + number + ")", x.join(number, 2 * number - 2), 2 * number - 1);
        }
        return x;
    }

    private static void numbers() {
        Edge.told(0, "Numbers 1 .. 8, two walkers of each.");
        Procession x = full();
        due("is(3) of all eight", x.is(3), 255);
        due("is(4) of all eight", x.is(4), 0);
        for (int place = 0; place < 16; place++) {
            due("at(" + place + ")", x.at(place), place / 2 + 1);
        }
        due("of(0, 3)", x.of(0, 3), -2);
        due("of(9, 3)", x.of(9, 3), -2);
    }

    private static void lengths() {
        Edge.told(0, "LENGTH of the row 1 .. 16 (at first 8): places 0 .. LENGTH less 1.");
        Procession x = new Procession();
        due("is(2) at first", x.is(2), 8);
        due("at(7)", x.at(7), 0);
        due("at(8)", x.at(8), NONE);
        due("length(1)", x.length(1), true);
        due("at(0)", x.at(0), 0);
        due("at(1)", x.at(1), NONE);
        due("is(4)", x.is(4), 1);
        due("length(0)", x.length(0), false);
        due("is(2) stays", x.is(2), 1);
        due("length(16)", x.length(16), true);
        due("at(15)", x.at(15), 0);
        due("at(16)", x.at(16), NONE);
        due("is(4)", x.is(4), 65535);
        due("length(17)", x.length(17), false);
        due("is(2) stays", x.is(2), 16);
    }

    private static void since() {
        Edge.told(0, "A number stands at two places (its first, its second) or not (at first not), SINCE 0 .. 99 "
                + "(DAYS since it joined; 0, if it doesn't stand).");
        Procession x = Edge.ruledBy("tires 0;");
        due("of(3, 0) at first", x.of(3, 0), NONE);
        due("of(3, 1) at first", x.of(3, 1), NONE);
        due("of(3, 2) at first", x.of(3, 2), 0);
        x.day(5);
        x.join(3, 1);
        due("of(3, 0)", x.of(3, 0), 1);
        due("of(3, 1)", x.of(3, 1), 5);
        due("of(3, 2): no day since it joined", x.of(3, 2), 0);
        x.day(60);
        due("of(3, 2)", x.of(3, 2), 60);
        x.day(38);
        due("of(3, 2) of 98 days", x.of(3, 2), 98);
        x.day(1);
        due("of(3, 2) of 99 days", x.of(3, 2), 99);
        x.day(1);
        due("of(3, 2) of 100 days", x.of(3, 2), 99);
        x.leave(3);
        due("of(3, 2) of one that left", x.of(3, 2), 0);
        x.join(3, 0);
        due("of(3, 2) of one that joined anew", x.of(3, 2), 0);
        x.length(16);
        x.join(8, 5);
        x.day(7);
        due("of(8, 2)", x.of(8, 2), 7);
    }

    private static void counters() {
        Edge.told(0, "DAY 0 .. 9999 (at first 0).");
        due("is(0)", new Procession().is(0), 0);
        due("is(0) of the last", Edge.lastDay("").is(0), 9999);
        Edge.told(0, "X: at first 443.");
        due("is(1)", new Procession().is(1), 443);
    }

    private static void bookOf25() {
        Edge.told(0, "BOOK (the latest 25).");
        Procession x = new Procession();
        due("book(-1, 0) at first", x.book(NONE, 0), 0);
        for (int i = 0; i < 12; i++) {
            x.join(1, i % 6);
            x.leave(1);
        }
        due("book(-1, 0) of 24", x.book(NONE, 0), 24);
        due("book(0, 3)", x.book(0, 3), 0);
        due("book(24, 3)", x.book(24, 3), -2);
        x.join(6, 1);
        due("join(6, 1) can't be", x.book(NONE, 0), 24);
        x.join(6, 0);
        due("book(-1, 0) of 25", x.book(NONE, 0), 25);
        due("book(0, 2) is the first line yet", x.book(0, 2), 0);
        due("book(24, 1)", x.book(24, 1), 6);
        x.leave(6);
        due("book(-1, 0) of 26", x.book(NONE, 0), 25);
        due("book(0, 2) is the second line", x.book(0, 2), 1);
        due("book(1, 3)", x.book(1, 3), 1);
        due("book(24, 2)", x.book(24, 2), 1);
        due("book(25, 2)", x.book(25, 2), -2);
    }

    private static void lengthOther() {
        Edge.told(0, "LENGTH is other (than it is), if nobody stands beyond it.");
        Edge.idle("length(8) as it is", x -> x.length(8), false);
        Procession x = new Procession();
        x.join(3, 2);
        due("length(6): 3 stands at 6", x.length(6), false);
        due("is(2) stays", x.is(2), 8);
        due("length(7)", x.length(7), true);
        due("length(7) again", x.length(7), false);
        due("about(2)", x.about(2), 2);
        due("of(3, 1)", x.of(3, 1), 6);
        x.leave(3);
        due("length(1) as nobody stands", x.length(1), true);
        x = full();
        due("length(15) of a full row", x.length(15), false);
    }

    private static void joined() {
        Edge.told(0, "JOINED: a number that doesn't stand does at a place and at the one that is between of it (as it is "
                + "then) and 1 further on, if both are there and free.");
        Edge.idleOn(Edge::busy, "join(2, 5): it stands", x -> x.join(2, 5), NONE);
        Procession x = new Procession();
        due("join(6, 0): from the first to the last place", x.join(6, 0), 7);
        x = new Procession();
        due("join(6, 1): the second isn't there", x.join(6, 1), NONE);
        due("join(1, 7): the second isn't there", x.join(1, 7), NONE);
        due("join(1, 6): the second isn't there", x.join(1, 6), NONE);
        due("join(1, 8): the first isn't there", x.join(1, 8), NONE);
        due("join(1, -1): the first isn't there", x.join(1, -1), NONE);
        due("join(2, -3): the first isn't there", x.join(2, -3), NONE);
        due("join(1, 5)", x.join(1, 5), 7);
        due("join(3, 5): the first is taken", x.join(3, 5), NONE);
        due("join(3, 1): the second is taken", x.join(3, 1), NONE);
        due("join(3, 3): the second of 1 is taken", x.join(3, 3), NONE);
        due("join(3, 2): both are free, what lies between isn't asked", x.join(3, 2), 6);
        due("about(2)", x.about(2), 2);
        x = Edge.ruledBy("between walk;");
        due("join(8, 0): none between", x.join(8, 0), 1);
        due("join(7, 2): one between, as it is then", x.join(7, 2), 4);
        due("of(8, 1) stays", x.of(8, 1), 1);
        due("join(6, 3)", x.join(6, 3), 6);
        x = Edge.ruledBy("between 14;");
        due("join(1, 0) of eight places", x.join(1, 0), NONE);
        x.length(15);
        due("join(1, 0) of fifteen", x.join(1, 0), NONE);
        x.length(16);
        due("join(1, 1)", x.join(1, 1), NONE);
        due("join(1, 0) of sixteen", x.join(1, 0), 15);
        x = Edge.ruledBy("between 0;");
        x.length(1);
        due("join(1, 0) of one place", x.join(1, 0), NONE);
        x.length(2);
        due("join(1, 1) of two", x.join(1, 1), NONE);
        due("join(1, 0) of two", x.join(1, 0), 1);
    }

    private static void left() {
        Edge.told(0, "LEFT: it doesn't stand any more.");
        Procession x = Edge.busy();
        due("leave(2)", x.leave(2), true);
        due("of(2, 0)", x.of(2, 0), NONE);
        due("of(2, 1)", x.of(2, 1), NONE);
        due("at(0)", x.at(0), 0);
        due("at(3)", x.at(3), 0);
        due("is(3)", x.is(3), 1);
        due("is(4)", x.is(4), 255 - 16 - 64);
        due("leave(2) again", x.leave(2), false);
        due("the others stand", x.of(1, 0), 4);
        due("join(2, 0) anew", x.join(2, 0), 3);
    }

    private static void turned() {
        Edge.told(0, "TURNED: who stands at a place stands at LENGTH less 1 less that place (nobody stands: it can't be).");
        Edge.idleOn(Procession::new, "turn() of nobody", x -> x.turn(), NONE);
        Procession x = Edge.busy();
        due("turn()", x.turn(), 2);
        due("of(2, 0)", x.of(2, 0), 4);
        due("of(2, 1)", x.of(2, 1), 7);
        due("of(1, 0)", x.of(1, 0), 1);
        due("of(1, 1)", x.of(1, 1), 3);
        due("of(1, 2) stays", x.of(1, 2), 1);
        due("is(4)", x.is(4), 1 | 4 | 32 | 64);
        due("turn() again", x.turn(), 2);
        due("of(2, 0)", x.of(2, 0), 0);
        x = full();
        due("turn() of a full row", x.turn(), 8);
        due("of(1, 0)", x.of(1, 0), 14);
        due("of(8, 1)", x.of(8, 1), 1);
        due("is(4)", x.is(4), 0);
        x = new Procession();
        x.length(10);
        x.join(8, 0);
        x.length(12);
        due("turn() of 8", x.turn(), 1);
        due("of(8, 0)", x.of(8, 0), 2);
        due("is(4)", x.is(4), 4095 - 4 - 2048);
        due("shift(-1) of 8", x.shift(-1), true);
        due("of(8, 0)", x.of(8, 0), 1);
        due("of(8, 1)", x.of(8, 1), 10);
        due("is(4)", x.is(4), 4095 - 2 - 1024);
        x = Edge.ruledBy("between 0;");
        x.length(2);
        x.join(5, 0);
        due("turn() of two places", x.turn(), 1);
        due("of(5, 0) stays", x.of(5, 0), 0);
        due("it is a step yet", x.about(2), 3);
        x.leave(5);
        due("turn() when all have left", x.turn(), NONE);
    }

    private static void shifted() {
        Edge.told(0, "SHIFTED: all that stand do so many places further on (or back), if all of these are there (nobody "
                + "stands: it can't be).");
        Edge.idleOn(Procession::new, "shift(1) of nobody", x -> x.shift(1), false);
        Edge.idleOn(Edge::busy, "shift(2): 1 would be at 8", x -> x.shift(2), false);
        Edge.idleOn(Edge::busy, "shift(-1): 2 would be at -1", x -> x.shift(-1), false);
        Procession x = Edge.busy();
        due("shift(1)", x.shift(1), true);
        due("of(1, 1) is the last place", x.of(1, 1), 7);
        due("of(2, 0)", x.of(2, 0), 1);
        due("of(2, 1), where 1 was", x.of(2, 1), 4);
        due("is(4)", x.is(4), 1 | 4 | 8 | 64);
        due("of(1, 2) stays", x.of(1, 2), 1);
        due("shift(1) again", x.shift(1), false);
        due("shift(-1) back to the first place", x.shift(-1), true);
        due("of(2, 0)", x.of(2, 0), 0);
        x = Edge.ruledBy("between 0;");
        x.length(16);
        x.join(1, 0);
        due("shift(15): the second isn't there", x.shift(15), false);
        due("shift(14)", x.shift(14), true);
        due("shift(-15)", x.shift(-15), false);
        due("shift(-14)", x.shift(-14), true);
        due("of(1, 1)", x.of(1, 1), 1);
        due("a full row can't", full().shift(1) || full().shift(-1), false);
    }

    private static void aDay() {
        Edge.told(0, "A DAY: numbers that stand, from 1 on: SINCE is 1 more (99 at most);");
        // who draws sees its own SINCE as one more, those behind it as they were
        Procession x = Edge.ruledBy("tires if since=1 then 10 else 0 end;");
        x.join(1, 0);
        due("SINCE is 1 when it draws", x.day(1), 1);
        // walk is 2 for 1 alone, if 1 is asked first and goes
        x = Edge.ruledBy("tires if walk=2 then 10 else 0 end;");
        x.join(2, 1);
        x.join(1, 0);
        due("one of them goes", x.day(1), 1);
        due("it is 1, though 2 joined ahead of it", x.is(3), 2);
        x = Edge.ruledBy("tires if since>98 then 10 else 0 end;");
        x.join(4, 0);
        x.day(60);
        due("98 days", x.day(38), 0);
        due("the 99th", x.day(1), 1);
        x = Edge.ruledBy("tires if since>99 then 10 else 0 end;");
        x.join(4, 0);
        x.day(60);
        x.day(60);
        due("SINCE is never above 99", x.day(60), 0);
        due("of(4, 2)", x.of(4, 2), 99);
        x = new Procession();
        x.day(60);
        due("who doesn't stand doesn't draw", x.is(1), 443);
        due("of(4, 2)", x.of(4, 2), 0);
    }

    private static void draws() {
        Edge.told(0, "a draw by 10 (X mod 10, X being (X * 701 + 571) mod 31019 then): below tires (as it is then) it is "
                + "gone tired (LEFT).");
        // X is 443, 924, 27915, 27016, 17197, 20296: draws of 3, 4, 5, 6, 7, 6
        for (int tires = 0; tires <= 10; tires++) {
            Procession x = Edge.ruledBy("tires " + tires + ";");
            x.join(1, 0);
            due("a draw of 3 by tires " + tires, x.day(1), tires > 3 ? 1 : 0);
            due("is(1)", x.is(1), 924);
            due("is(3)", x.is(3), tires > 3 ? 0 : 1);
        }
        Procession x = Edge.ruledBy("tires if number=1 then 3 else if number=2 then 5 else 5 end end;");
        x.length(16);
        x.join(1, 0);
        x.join(2, 1);
        x.join(3, 5);
        due("3 not below 3, 4 below 5, 5 not below 5", x.day(1), 1);
        due("is(3)", x.is(3), 5);
        due("is(1): three draws", x.is(1), 27016);
        due("of(2, 0)", x.of(2, 0), NONE);
        due("two more, of 6 and 7", x.day(1), 0);
        due("is(1): one that is gone draws no more", x.is(1), 20296);
        x = Edge.ruledBy("tires 10;");
        x.join(1, 0);
        due("tires 10 is above every draw", x.day(1), 1);
        x = Edge.ruledBy("tires 0;");
        x.join(1, 0);
        due("tires 0 is below every draw", x.day(60), 0);
        // places and numbers that are free as 2 draws, 1 having gone
        x = Edge.ruledBy("tires if number=1 then 10 else free 0*stands 2*(1-stands 1)*10 end;");
        x.join(1, 0);
        x.join(2, 1);
        due("tires as it is then", x.day(1), 2);
    }

    private static void lastDays() {
        Edge.told(0, "DAY is one more (at 9999 none can pass).");
        Procession x = Edge.ruledBy("tires if day=1 then 10 else 0 end;");
        x.join(1, 0);
        due("DAY is 0 while it passes", x.day(1), 0);
        due("is(0)", x.is(0), 1);
        due("DAY is 1 while it passes", x.day(1), 1);
        due("is(0)", x.is(0), 2);
        x = Edge.lastDay("tires 10;");
        x.join(1, 0);
        due("day(1)", x.day(1), NONE);
        due("is(0)", x.is(0), 9999);
        due("of(1, 2)", x.of(1, 2), 0);
        due("is(1)", x.is(1), 443);
        due("is(3)", x.is(3), 1);
    }

    private static void line(Procession x, int i, int day, int number, int what, int place) {
        due("book(" + i + ", 0)", x.book(i, 0), day);
        due("book(" + i + ", 1)", x.book(i, 1), number);
        due("book(" + i + ", 2)", x.book(i, 2), what);
        due("book(" + i + ", 3)", x.book(i, 3), place);
    }

    private static void writtenDown() {
        Edge.told(0, "Joined, left, gone tired are written down.");
        Procession x = Edge.ruledBy("tires if number>3 then 10 else 0 end;");
        x.length(16);
        x.join(1, 13);
        x.day(2);
        x.join(5, 3);
        x.join(4, 2);
        x.shift(-2);
        x.leave(1);
        x.join(8, 2);
        x.turn();
        x.day(1);
        x.length(9);
        due("book(-1, 0)", x.book(NONE, 0), 8);
        line(x, 0, 0, 1, 0, 13);
        line(x, 1, 2, 5, 0, 3);
        line(x, 2, 2, 4, 0, 2);
        line(x, 3, 2, 1, 1, 11);
        line(x, 4, 2, 8, 0, 2);
        // in the order of their numbers, on the day that passes, from where they stood then
        line(x, 5, 2, 4, 2, 10);
        line(x, 6, 2, 5, 2, 8);
        line(x, 7, 2, 8, 2, 4);
        x = new Procession();
        x.join(1, 6);
        x.leave(1);
        x.turn();
        x.shift(1);
        x.length(8);
        due("what can't be isn't", x.book(NONE, 0), 0);
    }

    private static void steps() {
        Edge.told(0, "STEPS: LENGTH other, JOINED, LEFT, TURNED, SHIFTED, a DAY (each), YEARS (see V): the latest 30 can be "
                + "taken back, the latest first (LENGTH, who stands where, SINCE, DAY, X, BOOK are as ahead of it).");
        Procession x = new Procession();
        x.day(29);
        due("about(2) of 29", x.about(2), 29);
        x.day(1);
        due("about(2) of 30", x.about(2), 30);
        x.day(1);
        due("about(2) of 31", x.about(2), 30);
        for (int left = 29; left >= 0; left--) {
            due("undo()", x.undo(), left);
            due("is(0)", x.is(0), left + 1);
        }
        due("undo() of the 31st", x.undo(), NONE);
        due("is(0)", x.is(0), 1);
        // taken back and done anew, again and again around the thirty
        for (int i = 0; i < 5; i++) {
            x.day(25);
            for (int j = 0; j < 20; j++) {
                x.undo();
            }
            due("about(2)", x.about(2), i == 0 ? 5 : 10);
            due("is(0)", x.is(0), 1 + 5 * (i + 1));
        }
        x.day(60);
        due("about(2)", x.about(2), 30);
        due("undo()", x.undo(), 29);
        due("is(0)", x.is(0), 85);
    }

    private static void undone(Edge.Call step) {
        Procession x = Edge.busy();
        String before = Edge.state(x);
        int steps = x.about(2);
        due("the step can be", step.of(x) >= 0, true);
        due("about(2)", x.about(2), steps + 1);
        due("it changed something", Edge.state(x).equals(before), false);
        due("undo()", x.undo(), steps);
        due("all is as ahead of it", Edge.state(x).equals(before), true);
    }

    private static void stepsOfAllKinds() {
        undone(x -> x.length(7) ? 1 : -1);
        undone(x -> x.length(16) ? 1 : -1);
        undone(x -> x.join(3, 1));
        undone(x -> x.leave(2) ? 1 : -1);
        undone(x -> x.turn());
        undone(x -> x.shift(1) ? 1 : -1);
        undone(x -> x.day(1));
        undone(x -> x.years(0, 1));
        undone(x -> x.years(9999, 40));
        // laws, texts, the tape, what was said and the image are no steps
        Procession x = Edge.busy();
        int steps = x.about(2);
        x.by(NONE);
        x.said(2, 2);
        x.text();
        x.image();
        due("about(2)", x.about(2), steps);
        x.undo();
        due("about(1)", x.about(1), NONE);
        due("about(3)", x.about(3), 2);
        due("about(0)", x.about(0), 2);
        // a year that does nothing is a step yet (X is other)
        x = new Procession();
        due("years(2, 1)", x.years(2, 1), 0);
        due("about(2)", x.about(2), 1);
        due("is(1)", x.is(1), 3728);
        due("undo()", x.undo(), 0);
        due("is(1)", x.is(1), 443);
        // a full book has its eldest line again
        x = new Procession();
        for (int i = 0; i < 12; i++) {
            x.join(1, 0);
            x.leave(1);
        }
        x.join(2, 4);
        due("book(0, 2)", x.book(0, 2), 0);
        x.leave(2);
        due("book(0, 2)", x.book(0, 2), 1);
        x.undo();
        due("book(-1, 0)", x.book(NONE, 0), 25);
        due("book(0, 2) again", x.book(0, 2), 0);
        due("book(24, 1) again", x.book(24, 1), 2);
    }

    private static void years() {
        Edge.told(0, "YEARS by a SEED: X is SEED (0 .. 9999) * 2 + 443; n times (1 .. 40): x is X, X anew (as in a draw): "
                + "x mod 6: 0, 1 number 1 and x / 6 mod 8 has JOINED at place x mod 16; 2 it has LEFT, if x mod 4 is 0; 3 all "
                + "are TURNED, if x mod 4 is 1 (each if it can be; else nothing); 4, 5 a DAY (if it can pass). It is one "
                + "STEP: DAY.");
        Procession x = Edge.ruledBy("tires 0;");
        x.length(16);
        // 443 mod 6 is 5, so is 20441
        due("years(0, 1)", x.years(0, 1), 1);
        due("is(1)", x.is(1), (443 * 701 + 571) % 31019);
        due("years(9999, 1)", x.years(9999, 1), 2);
        due("is(1)", x.is(1), (20441 * 701 + 571) % 31019);
        // 481 mod 6 is 1, 1 + 80 mod 8 is 1, 481 mod 16 is 1
        due("years(19, 1)", x.years(19, 1), 2);
        due("of(1, 0)", x.of(1, 0), 1);
        due("of(1, 2)", x.of(1, 2), 0);
        // 627 does nothing, 5832 mod 6 is 0, 1 + 972 mod 8 is 5, 5832 mod 16 is 8
        due("years(92, 2)", x.years(92, 2), 2);
        due("of(5, 0)", x.of(5, 0), 8);
        due("of(5, 1)", x.of(5, 1), 14);
        // 447 mod 6 is 3, mod 4 is 3; 20552 is 2 mod 6, 0 mod 4, 1 + 3425 mod 8 is 2 (of 471, that does nothing)
        due("years(2, 1)", x.years(2, 1), 2);
        due("of(1, 0): not turned by 3 mod 4", x.of(1, 0), 1);
        due("join(2, 4)", x.join(2, 4), 7);
        due("years(14, 2)", x.years(14, 2), 2);
        due("2 has left", x.of(2, 0), NONE);
        due("it is written as left", x.book(3, 2), 1);
        due("its first place", x.book(3, 3), 4);
        // 11090 is 2 mod 6, 2 mod 4, 1 + 1848 mod 8 is 1 (of 723, that does nothing)
        due("years(140, 2)", x.years(140, 2), 2);
        due("1 stays by 2 mod 4", x.of(1, 0), 1);
        // 453 is 3 mod 6, 1 mod 4
        due("years(5, 1)", x.years(5, 1), 2);
        due("of(1, 0) turned", x.of(1, 0), 12);
        due("of(5, 0) turned", x.of(5, 0), 1);
        // 807 does nothing, 7936 mod 6 is 4
        due("years(182, 2)", x.years(182, 2), 3);
        due("of(1, 2)", x.of(1, 2), 1);
        due("about(2): the length, a join, nine times years", x.about(2), 11);
        // its days draw, so X goes on by them too: 443, then 924 of the one that stands (two stand: 27915)
        x = Edge.ruledBy("tires 4;");
        x.join(1, 0);
        due("years(0, 1)", x.years(0, 1), 1);
        due("X by the draw of the day", x.is(1), 27915);
        due("924: a draw of 4, not below 4", x.is(3), 1);
        x = Edge.ruledBy("tires 5;");
        x.join(1, 0);
        due("years(0, 1)", x.years(0, 1), 1);
        due("4 is below 5", x.is(3), 0);
        due("gone tired", x.book(1, 2), 2);
        due("on day 0", x.book(1, 0), 0);
    }

    private static void yearsThatCant() {
        // 451 mod 6 is 1, number 4 at 3: the second at 8 isn't there; 445: 3 at 13 isn't there
        Procession x = new Procession();
        due("years(4, 1)", x.years(4, 1), 0);
        due("years(1, 1)", x.years(1, 1), 0);
        due("years(5, 1): nobody to turn", x.years(5, 1), 0);
        due("years(14, 2): 2 doesn't stand", x.years(14, 2), 0);
        due("is(3)", x.is(3), 0);
        due("book(-1, 0)", x.book(NONE, 0), 0);
        due("about(2): a step each", x.about(2), 4);
        x.length(9);
        due("years(4, 1)", x.years(4, 1), 0);
        due("of(4, 1)", x.of(4, 1), 8);
        due("years(4, 1) again: it stands", x.years(4, 1), 0);
        due("book(-1, 0)", x.book(NONE, 0), 1);
        // 481: 1 at 1, whose second is taken by 4 at 3
        due("years(19, 1): taken", x.years(19, 1), 0);
        due("is(3)", x.is(3), 8);
        x = Edge.lastDay("tires 10;");
        x.join(1, 0);
        due("years(0, 1) at 9999: no day", x.years(0, 1), 9999);
        due("is(3)", x.is(3), 1);
        due("is(1): x alone was drawn", x.is(1), 924);
        due("about(2)", x.about(2), 30);
        due("years(0, 40) at 9999", x.years(0, 40), 9999);
        Edge.idle("years(-1, 1)", y -> y.years(-1, 1), NONE);
        Edge.idle("years(10000, 1)", y -> y.years(10000, 1), NONE);
        Edge.idle("years(0, 0)", y -> y.years(0, 0), NONE);
        Edge.idle("years(0, 41)", y -> y.years(0, 41), NONE);
    }

    private static void images() {
        Edge.told(0, "AN IMAGE: all as it is, but the tape and the latest FAULT. BACK: all is so again.");
        Procession x = Edge.busy();
        x.image();
        String before = Edge.state(x);
        // the tape is "turn;", which is read as the second text
        due("text()", x.text(), 1);
        due("text()", Edge.read(x, "tires 3"), NONE);
        x.by(1);
        x.said(2, 9);
        x.leave(2);
        x.length(16);
        x.years(77, 40);
        x.day(9);
        Edge.put(x, "between 1;");
        x.back();
        due("the tape is as it was ahead of back()", x.about(4), 10);
        due("the fault, too", x.fault(0), 1);
        due("its place, too", x.fault(1), 7);
        due("about(0)", x.about(0), 1);
        due("text(): the tape's bytes are there", x.text(), 1);
        x.back();
        due("all is so again", Edge.state(x).equals(before), true);
        due("whose()", x.whose(), 1);
        due("undo()", x.undo(), 2);
        due("is(0)", x.is(0), 0);
        due("undo()", x.undo(), 1);
        due("is(3)", x.is(3), 2);
        imageOfSteps();
        imageOfWhatWasSaid();
    }

    private static void imageOfSteps() {
        Procession x = Edge.busy();
        x.image();
        x.day(60);
        x.leave(1);
        x.back();
        due("about(2), though other steps came", x.about(2), 3);
        due("undo() takes back the day", x.undo(), 2);
        due("is(0)", x.is(0), 0);
        due("of(1, 2)", x.of(1, 2), 0);
        due("undo() takes back 1", x.undo(), 1);
        due("is(3)", x.is(3), 2);
        due("undo() takes back 2", x.undo(), 0);
        due("is(3)", x.is(3), 0);
        // an image of thirty steps
        x = new Procession();
        x.day(40);
        x.image();
        x.day(7);
        x.back();
        due("about(2)", x.about(2), 30);
        for (int left = 29; left >= 0; left--) {
            due("undo()", x.undo(), left);
            due("is(0)", x.is(0), 10 + left);
        }
        due("undo() of none", x.undo(), NONE);
        x.back();
        due("undo() when it is back again", x.undo(), 29);
        due("is(0)", x.is(0), 39);
    }

    private static void imageOfWhatWasSaid() {
        Procession x = new Procession();
        Edge.read(x, "between number;");
        Edge.read(x, "between 9;");
        x.said(2, 2);
        x.image();
        x.said(NONE, 0);
        x.said(2, 9);
        x.said(3, 9);
        due("whose()", x.whose(), 2);
        x.back();
        due("about(3)", x.about(3), 1);
        due("whose(): what was said is so again", x.whose(), 1);
        x.said(NONE, 0);
        x.back();
        due("about(3)", x.about(3), 1);
        due("whose()", x.whose(), 1);
    }
}
