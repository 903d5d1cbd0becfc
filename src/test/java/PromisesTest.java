/** Promise by promise: ordinary inputs, the edges that the document names, and wrong inputs. */
public final class PromisesTest {
    private static final int NONE = Procession.NONE;
    private static int wrong = 0;

    public static void main(String[] args) {
        newObject();
        tape();
        texts();
        faultsOfPlace();
        faultsOfNumbers();
        faultsOfDepth();
        faultsOfClauses();
        ruling();
        lengths();
        joining();
        leavingAndTurning();
        shifting();
        days();
        lateDays();
        playing();
        years();
        undoing();
        numbersAndPlaces();
        books();
        foretelling();
        canJoin();
        laws();
        rows();
        rowsInOrder();
        oftenAndPinned();
        fewestAndKinds();
        rounds();
        threes();
        ways();
        staying();
        likely();
        most();
        games();
        whoseLaw();
        shapes();
        images();
        abouts();
        System.out.println(wrong == 0 ? "all promises are kept" : wrong + " answers are not as due");
        if (wrong != 0) {
            System.exit(1);
        }
    }

    private static void due(String call, long got, long want) {
        if (got != want) {
            wrong++;
            System.out.println(call + " answered " + got + ", due is " + want);
        }
    }

    private static void due(String call, boolean got, boolean want) {
        due(call, got ? 1 : 0, want ? 1 : 0);
    }

    private static void put(Procession x, String text) {
        x.end(0);
        for (int from = 0; from < text.length(); from += 20) {
            int[] words = new int[5];
            for (int i = 0; i < 20; i++) {
                int sign = from + i < text.length() ? text.charAt(from + i) & 255 : 0;
                words[i / 4] = words[i / 4] << 8 | sign;
            }
            x.feed(words[0], words[1], words[2], words[3], words[4]);
        }
        x.end(text.length());
    }

    private static int read(Procession x, String text) {
        put(x, text);
        return x.text();
    }

    private static Procession ruledBy(String text) {
        Procession x = new Procession();
        due("text of '" + text + "'", read(x, text), 0);
        due("by(0)", x.by(0), true);
        return x;
    }

    private static void fault(String text, int kind, int place) {
        Procession x = new Procession();
        due("text of '" + text + "'", read(x, text), kind == 0 ? 0 : NONE);
        due("fault(0) of '" + text + "'", x.fault(0), kind);
        due("fault(1) of '" + text + "'", x.fault(1), kind == 0 ? NONE : place);
    }

    private static String many(String part, int times) {
        StringBuilder all = new StringBuilder();
        for (int i = 0; i < times; i++) {
            all.append(part);
        }
        return all.toString();
    }

    // ---- 1

    private static void newObject() {
        Procession x = new Procession();
        int[] is = {0, 443, 8, 0, 255};
        for (int what = 0; what < 5; what++) {
            due("new is(" + what + ")", x.is(what), is[what]);
        }
        int[] about = {0, NONE, 0, 0, 0};
        for (int what = 0; what < 5; what++) {
            due("new about(" + what + ")", x.about(what), about[what]);
        }
        due("new book(-1, 0)", x.book(NONE, 0), 0);
        for (int number = 1; number <= 8; number++) {
            due("new of(" + number + ", 0)", x.of(number, 0), NONE);
            due("new of(" + number + ", 1)", x.of(number, 1), NONE);
            due("new of(" + number + ", 2)", x.of(number, 2), 0);
            due("new of(" + number + ", 3)", x.of(number, 3), number);
            due("new of(" + number + ", 4)", x.of(number, 4), 1);
        }
        read(x, "turn;");
        x.by(0);
        x.length(12);
        x.join(1, 0);
        x.day(3);
        x.said(1, 1);
        due("back() to the new one", x.back(), 0);
        for (int what = 0; what < 5; what++) {
            due("again new is(" + what + ")", x.is(what), is[what]);
            due("again new about(" + what + ")", x.about(what), about[what]);
        }
        due("again new book", x.book(NONE, 0), 0);
        due("NONE", NONE, -1);
    }

    // ---- 2, 3

    private static void tape() {
        Procession x = new Procession();
        for (int i = 1; i <= 15; i++) {
            due("feed " + i, x.feed(1, 2, 3, 4, i), 20 * i);
        }
        due("feed beyond 300", x.feed(0, 0, 0, 0, 0), NONE);
        due("about(4)", x.about(4), 300);
        due("end(301)", x.end(301), NONE);
        due("end(-1)", x.end(-1), NONE);
        due("end(300)", x.end(300), 300);
        due("end(281)", x.end(281), 281);
        due("feed at 281", x.feed(0, 0, 0, 0, 0), NONE);
        due("end(280)", x.end(280), 280);
        due("feed at 280", x.feed(0, 0, 0, 0, 0), 300);
        due("end(0)", x.end(0), 0);
        due("end(1) of none", x.end(1), NONE);
        due("end(MIN)", x.end(Integer.MIN_VALUE), NONE);
        // "turn;" lies across words, its highest byte first
        x.feed(0x20202074, 0x75726e3b, 0x20202020, 0x20202020, 0x20202020);
        due("text() of turn", x.text(), 0);
        due("played(0)", x.played(0), 0);
        x.feed(0x80202020, 0, 0, 0, 0);
        due("text() of a high byte", x.text(), NONE);
        due("fault(1) of it", x.fault(1), 0);
    }

    // ---- 4, 5

    private static void texts() {
        Procession x = new Procession();
        due("fault(0) ahead of any", x.fault(0), NONE);
        due("fault(1) ahead of any", x.fault(1), NONE);
        due("text() of nothing", x.text(), 0);
        due("fault(0) without", x.fault(0), 0);
        due("fault(1) without", x.fault(1), NONE);
        due("fault(2)", x.fault(2), NONE);
        due("fault(-1)", x.fault(-1), NONE);
        due("a faulty one", read(x, "turn"), NONE);
        due("its tape is empty", x.about(4), 0);
        due("text 1", read(x, " \n "), 1);
        due("text 2", read(x, "turn;"), 2);
        due("text 3", read(x, "turn;turn;"), 3);
        due("its tape is empty", x.about(4), 0);
        due("about(0)", x.about(0), 4);
        due("text 4", read(x, "tires (;"), NONE);
        due("the tape stays", x.about(4), 8);
        due("the fault is that of the latest read", x.fault(0), 0);
        x.back();
        due("text 0 anew", x.text(), NONE);
        due("fault(0)", x.fault(0), 1);
        due("fault(1)", x.fault(1), 7);
        x.back();
        due("the fault isn't of the image", x.fault(1), 7);
    }

    private static void faultsOfPlace() {
        fault("between 1;", 0, 0);
        fault("between 1", 1, 9);
        fault("between 1 \n", 1, 11);
        fault("between ;", 1, 8);
        fault(";", 1, 0);
        fault("  x;", 1, 2);
        fault("Turn;", 1, 0);
        fault("turns;", 1, 0);
        fault("tur n;", 1, 0);
        for (String letter : new String[] {"a", "z", "A", "Z", "m", "Q"}) {
            fault("turn" + letter + ";", 1, 0);
        }
        for (String other : new String[] {"`", "{", "@", "[", "_", ":", ".", ",", "0", "9"}) {
            fault("turn" + other + ";", 1, 4);
        }
        fault("turn;;", 1, 5);
        fault("turn!;", 1, 4);
        fault("turn\t;", 1, 4);
        fault("1;", 1, 0);
        fault("since;", 1, 0);
        fault("walk;", 1, 0);
        fault("long;", 1, 4);
        fault("long x;", 1, 5);
        fault("long (1);", 1, 5);
        fault("long -1;", 1, 5);
        fault("join 1 2;", 1, 7);
        fault("join 1 at;", 1, 9);
        fault("join 1at2;", 0, 0);
        fault("leave 1 at 2;", 1, 8);
        fault("day;", 1, 3);
        fault("day5;", 0, 0);
        fault("between 1 2;", 1, 10);
        fault("between 1+;", 1, 10);
        fault("between *1;", 1, 8);
        fault("between +1;", 1, 8);
        fault("between 1--1;", 0, 0);
        fault("between 1*-1;", 0, 0);
        fault("between ();", 1, 9);
        fault("between (1;", 1, 10);
        fault("between 1);", 1, 9);
        fault("between not 1;", 1, 8);
        fault("between then;", 1, 8);
        fault("between join;", 1, 8);
        fault("between abc;", 1, 8);
        fault("between DAY;", 1, 8);
        fault("between if 1=1 then 2 else 3 end;", 0, 0);
        fault("between if 1=1=1 then 2 else 3 end;", 1, 14);
        fault("between if 1= =1 then 2 else 3 end;", 1, 14);
        fault("between if 1=<1 then 2 else 3 end;", 1, 13);
        fault("between if 1<=1 then 2 else 3 end;", 0, 0);
        fault("between if 1< =1 then 2 else 3 end;", 1, 14);
        fault("between if (1=1) then 2 else 3 end;", 1, 13);
        fault("between if 1=1 or then 2 else 3 end;", 1, 18);
        fault("between if 1=1 and not 2#3 or 1>=2 then 2 else 3 end;", 0, 0);
        fault("between if 1=1 then 2 end;", 1, 22);
        fault("between if 1=1 then 2 else 3;", 1, 28);
        fault("between if 1=1 then 2 else 3 end", 1, 32);
        fault("between if 1=1 else 2;", 1, 15);
        fault("between if 1 then 2 else 3 end;", 1, 13);
        fault("between stands;", 1, 14);
        fault("between stands 1 2;", 1, 17);
        fault("between free free 1;", 0, 0);
        fault("between 1 # 2;", 1, 10);
        fault("between 1\u00002;", 1, 9);
        fault("between 1\u00e9;", 1, 9);
        fault("turn;" + "\u00ff", 1, 5);
        // of one token the least
        fault("10000;", 1, 0);
        fault("between 1 10000;", 1, 10);
        fault("turn " + "since;", 1, 5);
    }

    private static void faultsOfNumbers() {
        fault("between 9999;", 0, 0);
        fault("between 10000;", 2, 8);
        fault("between 00009999;", 0, 0);
        fault("between 99999999999999999999;", 2, 8);
        fault("between 4294967297;", 2, 8);
        fault("long 1;long 16;", 0, 0);
        fault("long 0;", 2, 5);
        fault("long 17;", 2, 5);
        fault("long 10001;", 2, 5);
        fault("join 1 at 0;join 8 at 15;", 0, 0);
        fault("join 0 at 0;", 2, 5);
        fault("join 9 at 99;", 2, 5);
        fault("join 8 at 16;", 2, 10);
        fault("leave 1;leave 8;", 0, 0);
        fault("leave 0;", 2, 6);
        fault("leave 9;", 2, 6);
        fault("day 1;day 60;", 0, 0);
        fault("day 0;", 2, 4);
        fault("day 61;", 2, 4);
        fault("day 61", 2, 4);
    }

    private static void faultsOfDepth() {
        fault("tires " + many("(", 8) + "1" + many(")", 8) + ";", 0, 0);
        fault("tires " + many("(", 9) + "1" + many(")", 9) + ";", 3, 14);
        fault("tires " + many("-", 8) + "1;", 0, 0);
        fault("tires " + many("-", 9) + "1;", 3, 14);
        fault("tires 1" + many("--1", 20) + ";", 0, 0);
        fault("tires " + many("stands ", 8) + "1;", 0, 0);
        fault("tires " + many("stands ", 9) + "1;", 3, 62);
        fault("tires " + many("free ", 8) + "(1);", 3, 46);
        fault("tires if " + many("not ", 7) + "1=1 then 1 else 2 end;", 0, 0);
        fault("tires if " + many("not ", 8) + "1=1 then 1 else 2 end;", 3, 37);
        fault("tires if " + many("not ", 7) + "-1=1 then 1 else 2 end;", 3, 37);
        // those that are closed don't count
        fault("tires if " + many("not ", 7) + "1=1 and not 2=(2) then (1) else (((((((2))))))) end;", 0, 0);
        fault("tires if 1=1 then 1 else ((((((((2)))))))) end;", 3, 32);
        fault("tires " + many("if 1=1 then ", 8) + "1" + many(" else 2 end", 8) + ";", 0, 0);
        fault("tires " + many("if 1=1 then ", 9) + "1;", 3, 102);
        fault("tires " + many("(", 8) + "1+since-walk*2" + many(")", 8) + "*" + many("(", 8) + "1" + many(")", 8) + ";", 0, 0);
        // what can't stand there comes first
        fault("tires " + many("(", 8) + "1(", 1, 15);
        fault("tires " + many("(", 8) + "not", 1, 14);
    }

    private static void faultsOfClauses() {
        fault("between 1;tires 2;between 3;", 4, 18);
        fault("tires 2;between 1;tires;", 4, 18);
        fault("between since;", 5, 8);
        fault("between first;", 5, 8);
        fault("tires last;", 5, 6);
        fault("tires since+first;", 0, 0);
        fault("between last+day+number+long+walk;tires day+number+long+walk;", 0, 0);
        fault("between 1 since;", 1, 10);
        fault(many("turn;", 24), 0, 0);
        fault(many("turn;", 25), 6, 120);
        fault(many("turn;", 24) + " day", 6, 121);
        fault(many("turn;", 24) + "x", 1, 120);
        fault("tires 1;" + many("turn;", 23) + "tires", 4, 123);
        fault("tires 1;" + many("turn;", 23) + "between", 6, 123);
        fault("tires 1;between 1;" + many("turn;", 22), 0, 0);
    }

    // ---- 6

    private static void ruling() {
        Procession x = new Procession();
        due("by(0) without", x.by(0), false);
        due("by(-2)", x.by(-2), false);
        due("by(NONE)", x.by(NONE), true);
        read(x, "between 5;");
        read(x, "tires 7;");
        due("of(1, 3) yet", x.of(1, 3), 1);
        due("by(0)", x.by(0), true);
        due("of(1, 3)", x.of(1, 3), 5);
        due("of(1, 4)", x.of(1, 4), 1);
        due("about(1)", x.about(1), 0);
        due("by(2)", x.by(2), false);
        due("about(1) stays", x.about(1), 0);
        due("by(1)", x.by(1), true);
        due("of(1, 3) by 1", x.of(1, 3), 1);
        due("of(1, 4) by 1", x.of(1, 4), 7);
        due("by(NONE)", x.by(NONE), true);
        due("of(1, 4) by none", x.of(1, 4), 1);
    }

    // ---- 7

    private static void lengths() {
        Procession x = new Procession();
        due("length(8) as it is", x.length(8), false);
        due("length(0)", x.length(0), false);
        due("length(17)", x.length(17), false);
        due("length(-1)", x.length(-1), false);
        due("length(1)", x.length(1), true);
        due("is(4)", x.is(4), 1);
        due("length(16)", x.length(16), true);
        due("is(4)", x.is(4), 65535);
        x.join(1, 10);
        due("length(12) beyond it", x.length(12), false);
        due("length(13)", x.length(13), true);
        due("about(2)", x.about(2), 4);
    }

    // ---- 8

    private static void joining() {
        Procession x = new Procession();
        due("join(0, 0)", x.join(0, 0), NONE);
        due("join(9, 0)", x.join(9, 0), NONE);
        due("join(1, -1)", x.join(1, -1), NONE);
        due("join(1, 8)", x.join(1, 8), NONE);
        due("join(1, 6)", x.join(1, 6), NONE);
        due("about(2)", x.about(2), 0);
        due("join(1, 5)", x.join(1, 5), 7);
        due("join(1, 0) stands", x.join(1, 0), NONE);
        due("join(3, 1) taken", x.join(3, 1), NONE);
        due("join(3, 5) taken", x.join(3, 5), NONE);
        due("join(3, 0)", x.join(3, 0), 4);
        due("at(4)", x.at(4), 3);
        due("about(2)", x.about(2), 2);
        due("join(6, MAX)", x.join(6, Integer.MAX_VALUE), NONE);
        x = ruledBy("between 20-number*30;");
        due("between is 0 at least", x.join(2, 3), 4);
        x.length(16);
        x.by(NONE);
        due("join(8, 6)", x.join(8, 6), 15);
        x = ruledBy("between 9999;");
        due("between is 14 at most", x.of(1, 3), 14);
        x.length(16);
        due("join(8, 0)", x.join(8, 0), 15);
        due("join(7, 1)", x.join(7, 1), NONE);
    }

    // ---- 9, 10

    private static void leavingAndTurning() {
        Procession x = new Procession();
        due("leave(1)", x.leave(1), false);
        due("leave(0)", x.leave(0), false);
        due("leave(9)", x.leave(9), false);
        due("turn() of none", x.turn(), NONE);
        due("about(2)", x.about(2), 0);
        x.join(2, 0);
        x.join(1, 4);
        x.day(1);
        due("turn()", x.turn(), 2);
        due("of(2, 0)", x.of(2, 0), 4);
        due("of(2, 1)", x.of(2, 1), 7);
        due("of(1, 0)", x.of(1, 0), 1);
        due("of(1, 1)", x.of(1, 1), 3);
        due("of(1, 2) stays", x.of(1, 2), 1);
        due("leave(2)", x.leave(2), true);
        due("of(2, 0)", x.of(2, 0), NONE);
        due("of(2, 2)", x.of(2, 2), 0);
        due("is(4)", x.is(4), 255 - 2 - 8);
        due("about(2)", x.about(2), 5);
        due("leave(2) again", x.leave(2), false);
    }

    // ---- 11

    private static void shifting() {
        Procession x = new Procession();
        due("shift(1) of none", x.shift(1), false);
        x.join(1, 2);
        due("shift(0)", x.shift(0), false);
        due("shift(-3)", x.shift(-3), false);
        due("shift(4)", x.shift(4), false);
        due("shift(3)", x.shift(3), true);
        due("of(1, 1)", x.of(1, 1), 7);
        due("shift(-5)", x.shift(-5), true);
        due("of(1, 0)", x.of(1, 0), 0);
        due("at(2)", x.at(2), 1);
        due("is(4)", x.is(4), 255 - 1 - 4);
        due("shift(16)", x.shift(16), false);
        due("shift(-16)", x.shift(-16), false);
        due("shift(MIN)", x.shift(Integer.MIN_VALUE), false);
        due("shift(MAX)", x.shift(Integer.MAX_VALUE), false);
        due("about(2)", x.about(2), 3);
        x.length(16);
        due("shift(13)", x.shift(13), true);
        due("shift(-13)", x.shift(-13), true);
        x.join(2, 3);
        due("one of two would be beyond", x.shift(10), false);
        due("shift(9)", x.shift(9), true);
        due("of(2, 1)", x.of(2, 1), 15);
    }

    // ---- 12

    private static void days() {
        Procession x = new Procession();
        due("day(0)", x.day(0), NONE);
        due("day(61)", x.day(61), NONE);
        due("day(-1)", x.day(-1), NONE);
        due("day(60) of none", x.day(60), 0);
        due("is(0)", x.is(0), 60);
        due("is(1) stays, nobody draws", x.is(1), 443);
        // X is 443, 924, 27915, 27016, 17197, 20296: draws 3, 4, 5, 6, 7, 6
        x = ruledBy("tires if number=1 then 4 else if number=2 then 4 else 6 end end;");
        x.length(16);
        x.join(1, 0);
        x.join(2, 1);
        x.join(3, 5);
        due("day(1): 1 by 3, not 2 by 4, 3 by 5", x.day(1), 2);
        due("is(3)", x.is(3), 2);
        due("is(1)", x.is(1), 27016);
        due("book(3, 0), of that day", x.book(3, 0), 0);
        due("book(3, 1)", x.book(3, 1), 1);
        due("book(3, 2)", x.book(3, 2), 2);
        due("book(4, 3)", x.book(4, 3), 5);
        due("of(2, 2)", x.of(2, 2), 1);
        due("of(3, 2) left", x.of(3, 2), 0);
        due("is(0)", x.is(0), 1);
        due("about(2)", x.about(2), 5);
        // tires is asked when SINCE is one more, and by those that still stand
        x = ruledBy("tires since*4;");
        x.join(1, 0);
        due("since is 1 then: 4 above 3", x.day(1), 1);
        x = ruledBy("tires if walk=2 then 10 else 0 end;");
        x.join(1, 0);
        x.join(2, 1);
        due("the second sees the first gone", x.day(1), 1);
        due("is(3)", x.is(3), 2);
        x = ruledBy("tires 0;");
        x.join(1, 0);
        due("none tires", x.day(60) + x.day(60), 0);
        due("SINCE is 99 at most", x.of(1, 2), 99);
        x = ruledBy("tires 10;");
        x.join(1, 0);
        x.day(9);
        due("all tire", x.is(3), 0);
        x = ruledBy("tires 0-5;");
        due("tires is 0 at least", x.of(1, 4), 0);
        x = ruledBy("tires 11;");
        due("tires is 10 at most", x.of(1, 4), 10);
    }

    private static void lateDays() {
        Procession x = ruledBy("tires 0;");
        read(x, "between 3;turn;day 60;turn;");
        x.join(1, 0);
        for (int i = 0; i < 166; i++) {
            x.day(60);
        }
        due("is(0)", x.is(0), 9960);
        due("day(40)", x.day(40), NONE);
        due("is(0) stays", x.is(0), 9960);
        due("foretold(60)", x.foretold(60), 1);
        due("those that can pass do", x.played(1), 2);
        due("is(0)", x.is(0), 9999);
        due("about(2)", x.about(2), 30);
        due("undo() takes back one day", x.undo(), 29);
        due("is(0)", x.is(0), 9998);
        due("day(2)", x.day(2), NONE);
        due("day(1)", x.day(1), 0);
        due("day(1) at 9999", x.day(1), NONE);
        due("foretold(1) at 9999", x.foretold(1), 1);
        due("played(1) at 9999", x.played(1), 2);
        due("years at 9999", x.years(1, 40), 9999);
        due("of(1, 2)", x.of(1, 2) >= 0, true);
        x = ruledBy("tires 10;");
        for (int i = 0; i < 167; i++) {
            x.day(i == 166 ? 39 : 60);
        }
        due("join(1, 0)", x.join(1, 0), 2);
        due("foretold(5): no day can pass", x.foretold(5), 1);
        due("book(0, 0)", x.book(0, 0), 9999);
    }

    // ---- 13

    private static void playing() {
        Procession x = new Procession();
        due("played(0) without", x.played(0), -2);
        due("played(NONE)", x.played(NONE), -2);
        read(x, "");
        due("played of nothing", x.played(0), NONE);
        read(x, "between 1;long 9;join 4 at 0;tires 10;turn;leave 4;join 1 at 15;long 3;");
        due("played(1)", x.played(1), 6);
        due("what was done stays", x.is(2), 9);
        due("its laws don't rule", x.book(0, 3), 0);
        due("4 by 4 between", x.book(1, 3), 3);
        due("about(2)", x.about(2), 4);
        due("played(1): LENGTH isn't other", x.played(1), 1);
        due("played(2)", x.played(2), -2);
        read(x, "long 12;turn;");
        due("played(2): nobody turns", x.played(2), 1);
        read(x, "join 1 at 0;join 1 at 5;");
        due("played(3)", x.played(3), 1);
        due("played(3) again", x.played(3), 0);
        x.back();
        read(x, "between number*2;leave 1;");
        read(x, "join 2 at 1;");
        due("played(0)", x.played(0), 1);
        x.by(0);
        due("played(1) by 0", x.played(1), NONE);
        due("of(2, 1)", x.of(2, 1), 6);
    }

    // ---- 14

    private static void years() {
        Procession x = new Procession();
        due("years(-1, 1)", x.years(-1, 1), NONE);
        due("years(10000, 1)", x.years(10000, 1), NONE);
        due("years(0, 0)", x.years(0, 0), NONE);
        due("years(0, 41)", x.years(0, 41), NONE);
        due("about(2)", x.about(2), 0);
        // x is 443: mod 6 is 5
        due("years(0, 1)", x.years(0, 1), 1);
        due("is(1)", x.is(1), 924);
        due("about(2)", x.about(2), 1);
        // x is 20441: mod 6 is 5
        due("years(9999, 1)", x.years(9999, 1), 2);
        // x is 445: mod 6 is 1, number 1 + 74 mod 8 = 3, place 445 mod 16 = 13
        due("years(1, 1)", x.years(1, 1), 2);
        due("beyond the row", x.is(3), 0);
        x.length(16);
        due("years(1, 1)", x.years(1, 1), 2);
        due("13 and 4 further on is beyond", x.is(3), 0);
        // x is 481: mod 6 is 1, number 1 + 80 mod 8 = 1, place 481 mod 16 = 1
        due("years(19, 1)", x.years(19, 1), 2);
        due("of(1, 0)", x.of(1, 0), 1);
        due("of(1, 1)", x.of(1, 1), 3);
        due("book(0, 2)", x.book(0, 2), 0);
        // x is 447: mod 6 is 3, mod 4 is 3: nothing; 453: mod 6 is 3, mod 4 is 1
        due("years(2, 1)", x.years(2, 1), 2);
        due("of(1, 0) stays", x.of(1, 0), 1);
        due("years(5, 1)", x.years(5, 1), 2);
        due("of(1, 0) turned", x.of(1, 0), 12);
        due("is(1)", x.is(1), (453 * 701 + 571) % 31019);
        // X is odd at first, so a number can leave by the second draw alone; x mod 12 is 8, so it is an even one
        x.join(2, 0);
        int left = 0;
        for (int seed = 0; seed < 10000 && left == 0; seed++) {
            int first = seed * 2 + 443;
            int second = (first * 701 + 571) % 31019;
            if (first % 6 == 3 && first % 4 == 3 && second % 12 == 8 && second / 6 % 8 == 1) {
                due("years(" + seed + ", 2)", x.years(seed, 2), 2);
                due("it has left", x.is(3), 1);
                due("ledger(1)", x.ledger(1), 1);
                left = seed;
            }
        }
        due("such a seed was found", left > 0, true);
        due("undo()", x.undo() >= 0, true);
        due("it stands again", x.is(3), 3);
        due("MAX", x.years(Integer.MAX_VALUE, Integer.MAX_VALUE), NONE);
    }

    // ---- 15

    private static void undoing() {
        Procession x = new Procession();
        due("undo() of none", x.undo(), NONE);
        for (int i = 0; i < 40; i++) {
            x.length(1 + (i + 8) % 16);
        }
        due("about(2)", x.about(2), 30);
        for (int i = 29; i >= 0; i--) {
            due("undo() to " + i, x.undo(), i);
        }
        due("is(2)", x.is(2), 1 + (9 + 8) % 16);
        due("undo() of none", x.undo(), NONE);
        x = new Procession();
        x.join(1, 0);
        x.day(2);
        due("about(2)", x.about(2), 3);
        x.years(7, 40);
        x.leave(1);
        due("undo() of years and what may be behind", x.undo() >= 2, true);
        while (x.about(2) > 1) {
            x.undo();
        }
        due("is(0)", x.is(0), 0);
        due("is(1)", x.is(1), 443);
        due("of(1, 2)", x.of(1, 2), 0);
        due("book(-1, 0)", x.book(NONE, 0), 1);
        due("undo()", x.undo(), 0);
        due("is(3)", x.is(3), 0);
        due("book(-1, 0)", x.book(NONE, 0), 0);
        // a book that is full has its eldest line again
        for (int i = 0; i < 13; i++) {
            x.join(1 + i % 5, 0);
            x.leave(1 + i % 5);
        }
        due("book(0, 2)", x.book(0, 2), 1);
        x.undo();
        due("book(0, 2) again", x.book(0, 2), 0);
        due("book(24, 2)", x.book(24, 2), 0);
        // laws, texts and what was said are no steps
        x = ruledBy("between 2;");
        x.said(1, 2);
        due("undo()", x.undo(), NONE);
        due("about(1)", x.about(1), 0);
    }

    // ---- 16, 17, 18

    private static void numbersAndPlaces() {
        Procession x = new Procession();
        x.join(4, 1);
        x.join(2, 0);
        due("of(4, 0)", x.of(4, 0), 1);
        due("of(4, 1)", x.of(4, 1), 6);
        due("of(4, -1)", x.of(4, -1), -2);
        due("of(4, 5)", x.of(4, 5), -2);
        due("of(0, 0)", x.of(0, 0), -2);
        due("of(9, 0)", x.of(9, 0), -2);
        due("at(-1)", x.at(-1), NONE);
        due("at(7)", x.at(7), 0);
        due("at(8)", x.at(8), NONE);
        due("at(6)", x.at(6), 4);
        due("at(0)", x.at(0), 2);
        due("at(3)", x.at(3), 2);
        due("is(3)", x.is(3), 10);
        due("is(4)", x.is(4), 255 - 1 - 2 - 8 - 64);
        due("is(-1)", x.is(-1), -2);
        due("is(5)", x.is(5), -2);
    }

    // ---- 19, 48

    private static void books() {
        Procession x = ruledBy("tires 10;");
        due("book(0, 0)", x.book(0, 0), -2);
        x.join(1, 3);
        x.day(1);
        x.join(2, 2);
        x.leave(2);
        int[][] lines = {{0, 1, 0, 3}, {0, 1, 2, 3}, {1, 2, 0, 2}, {1, 2, 1, 2}};
        due("book(-1, 9)", x.book(NONE, 9), 4);
        for (int i = 0; i < 4; i++) {
            for (int what = 0; what < 4; what++) {
                due("book(" + i + ", " + what + ")", x.book(i, what), lines[i][what]);
            }
        }
        due("book(4, 0)", x.book(4, 0), -2);
        due("book(-2, 0)", x.book(-2, 0), -2);
        due("book(0, 4)", x.book(0, 4), -2);
        due("book(0, -1)", x.book(0, -1), -2);
        due("ledger(0)", x.ledger(0), 2);
        due("ledger(1)", x.ledger(1), 1);
        due("ledger(2)", x.ledger(2), 1);
        due("ledger(3)", x.ledger(3), -2);
        due("ledger(-1)", x.ledger(-1), -2);
        for (int i = 0; i < 15; i++) {
            x.join(3, 0);
            x.leave(3);
        }
        due("the latest 25", x.book(NONE, 0), 25);
        due("book(0, 2)", x.book(0, 2), 1);
        due("book(24, 2)", x.book(24, 2), 1);
        due("book(25, 2)", x.book(25, 2), -2);
        due("ledger(0)", x.ledger(0), 12);
        due("ledger(1)", x.ledger(1), 13);
        due("ledger(2)", x.ledger(2), 0);
        x.turn();
        x.length(9);
        x.day(1);
        due("nothing else is written", x.ledger(1), 13);
        // a number above seven, a day above a thousand and a place of two digits stay apart
        x = ruledBy("tires 0;");
        x.length(16);
        for (int i = 0; i < 20; i++) {
            x.day(60);
        }
        x.by(NONE);
        x.join(8, 6);
        x.join(1, 12);
        due("book(0, 0)", x.book(0, 0), 1200);
        due("book(0, 1)", x.book(0, 1), 8);
        due("book(1, 3)", x.book(1, 3), 12);
    }

    // ---- 20

    private static void foretelling() {
        Procession x = ruledBy("tires if since>number then 10 else 0 end;");
        due("foretold(0)", x.foretold(0), NONE);
        due("foretold(61)", x.foretold(61), NONE);
        x.join(1, 0);
        x.join(2, 1);
        x.join(3, 3);
        for (int n = 1; n <= 60; n++) {
            due("foretold(" + n + ")", x.foretold(n), n < 2 ? 7 : n < 3 ? 6 : n < 4 ? 4 : 0);
        }
        due("is(0) stays", x.is(0), 0);
        due("is(1) stays", x.is(1), 443);
        due("book(-1, 0) stays", x.book(NONE, 0), 3);
        due("about(2) stays", x.about(2), 3);
        due("of(1, 2) stays", x.of(1, 2), 0);
    }

    // ---- 21

    private static void canJoin() {
        Procession x = new Procession();
        due("can(0)", x.can(0), NONE);
        due("can(9)", x.can(9), NONE);
        due("can(6)", x.can(6), 1);
        due("can(7)", x.can(7), 0);
        x.join(2, 2);
        due("can(2) stands", x.can(2), 0);
        due("can(1)", x.can(1), 2 | 16);
        due("can(3)", x.can(3), 1 | 8);
        due("can(5)", x.can(5), 1 | 2);
        x.by(0);
    }

    // ---- II

    private static void law(String sum, int worth) {
        Procession x = ruledBy("between " + sum + ";");
        due("between " + sum, x.of(5, 3), worth);
    }

    private static void laws() {
        law("7-2-3", 2);
        law("12/2/3", 2);
        law("2+3*2", 8);
        law("(2+3)*2", 10);
        law("7/2*2", 6);
        law("0-7/2+9", 6);
        law("-7/2+9", 6);
        law("(0-7)/2+9", 6);
        law("7/-2+9", 6);
        law("3/0+4", 4);
        law("3/(1-1)", 0);
        law("- -4", 4);
        law("-(3-8)", 5);
        law("9999*9999-9999*100-90+80", 14);
        law("9999*9999/9999-90", 10);
        law("9999*9999-9999*9999+3", 3);
        law("-9999*9999/9999+105", 5);
        law("-9999*101/9999+110", 10);
        law("(9999*9999+9999*9999)/9999-98", 2);
        law("(0-9999*9999-9999*9999)/9999+109", 9);
        law("number", 5);
        law("number*2+1", 11);
        law("long", 8);
        law("day+walk+last", 0);
        law("stands 1+stands number+stands 9+stands 0+stands -1", 0);
        law("free 0+free 7", 2);
        law("free 8+free -1", 0);
        law("if 1<2 then 3 else 4 end", 3);
        law("if 2<2 then 3 else 4 end", 4);
        law("if 2<=2 then 3 else 4 end", 3);
        law("if 3<=2 then 3 else 4 end", 4);
        law("if 3>2 then 3 else 4 end", 3);
        law("if 2>2 then 3 else 4 end", 4);
        law("if 2>=2 then 3 else 4 end", 3);
        law("if 1>=2 then 3 else 4 end", 4);
        law("if 2=2 then 3 else 4 end", 3);
        law("if 1=2 then 3 else 4 end", 4);
        law("if 1#2 then 3 else 4 end", 3);
        law("if 2#2 then 3 else 4 end", 4);
        law("if not 2#2 then 3 else 4 end", 3);
        law("if not not 2#2 then 3 else 4 end", 4);
        law("if 1=1 or 1=1 and 1=2 then 3 else 4 end", 3);
        law("if 1=2 and 1=1 or 1=1 then 3 else 4 end", 3);
        law("if 1=2 and 1=2 or 1=2 then 3 else 4 end", 4);
        law("if not 1=1 or 1=1 then 3 else 4 end", 3);
        law("if not 1=2 and 1=2 then 3 else 4 end", 4);
        law("if 1+1=2*1 then if 1=2 then 1 else 2 end else 4 end+1", 3);
        law("-if 1=1 then 3 else 4 end+9", 6);
        law("stands free 0", 0);
        Procession x = ruledBy("between stands 2*4+free 3*2+last+walk;tires first+since*2;");
        x.length(16);
        due("of(1, 3)", x.of(1, 3), 2);
        due("join(2, 3)", x.join(2, 3), 6);
        due("of(1, 3)", x.of(1, 3), 4 + 2 + 1);
        due("join(1, 0)", x.join(1, 0), 8);
        due("of(3, 3)", x.of(3, 3), 4 + 1 + 2);
        due("of(2, 4)", x.of(2, 4), 3);
        due("of(3, 4)", x.of(3, 4), 0);
        x.leave(1);
        due("last is 1 yet", x.of(3, 3), 4 + 1 + 1);
        x.undo();
        x.undo();
        due("last is 2", x.of(3, 3), 4 + 2 + 1);
    }

    // ---- 22

    private static void rows() {
        Procession x = new Procession();
        long[] full = {1, 0, 0, 2, 2, 0, 0, 52, 300};
        for (int n = 0; n <= 8; n++) {
            due("rows of " + n, x.rows((1 << n) - 1, 0), full[n]);
        }
        due("rows(0, 16)", x.rows(0, 16), 1);
        due("rows(0, 17)", x.rows(0, 17), NONE);
        due("rows(0, -1)", x.rows(0, -1), NONE);
        due("rows(-1, 0)", x.rows(-1, 0), NONE);
        due("rows(256, 0)", x.rows(256, 0), NONE);
        due("rows(1, 14)", x.rows(1, 14), 14);
        due("rows(1, 15)", x.rows(1, 15), NONE);
        due("rows(128, 6)", x.rows(128, 6), 0);
        due("rows(128, 8)", x.rows(128, 8), 1);
        due("rows(3, 1)", x.rows(3, 1), 2);
        x = ruledBy("between 0;");
        due("eight alike", x.rows(255, 0), 40320);
        due("seven alike, two gaps", x.rows(127, 2), 181440);
        due("rows(3, 1) alike", x.rows(3, 1), 6);
        x = ruledBy("between day+number;tires 0;");
        due("rows(1, 1)", x.rows(1, 1), 1);
        x.day(1);
        due("rows(1, 1) a day on", x.rows(1, 1), 0);
        due("rows(3, 0) a day on", x.rows(3, 0), 0);
    }

    // ---- 23, 24

    private static void rowsInOrder() {
        Procession x = new Procession();
        int[] lowest = {2, 3, 1, 2, 1, 3};
        for (int place = 0; place < 6; place++) {
            due("row(7, 0, " + place + ")", x.row(7, 0, place), lowest[place]);
            due("rowAt(7, 0, 1, " + place + ")", x.rowAt(7, 0, 1, place), lowest[5 - place]);
        }
        due("row(7, 0, 6)", x.row(7, 0, 6), NONE);
        due("row(7, 0, -1)", x.row(7, 0, -1), NONE);
        due("rowAt(7, 0, 2, 0)", x.rowAt(7, 0, 2, 0), NONE);
        due("rowAt(7, 0, -1, 0)", x.rowAt(7, 0, -1, 0), NONE);
        due("row(3, 0, 0)", x.row(3, 0, 0), NONE);
        due("row(0, 0, 0)", x.row(0, 0, 0), NONE);
        due("row(0, 2, 1)", x.row(0, 2, 1), 0);
        due("row(256, 0, 0)", x.row(256, 0, 0), NONE);
        due("row(7, 17, 0)", x.row(7, 17, 0), NONE);
        // 0 1 0 1, then 1 0 1 0
        due("row(1, 2, 0)", x.row(1, 2, 0), 0);
        due("row(1, 2, 3)", x.row(1, 2, 3), 1);
        due("rowAt(1, 2, 1, 0)", x.rowAt(1, 2, 1, 0), 1);
        due("rowAt(1, 2, 1, 1)", x.rowAt(1, 2, 1, 1), 0);
        due("rowAt(1, 2, MAX, 1)", x.rowAt(1, 2, Integer.MAX_VALUE, 1), NONE);
        // all rows of a set, each above the one ahead of it, and all of them rows
        int rows = (int) x.rows(15, 3);
        long before = -1;
        for (int i = 0; i < rows; i++) {
            // an object is used for 512 calls at most
            x = new Procession();
            long now = 0;
            for (int place = 0; place < 11; place++) {
                now = now * 9 + x.rowAt(15, 3, i, place);
            }
            due("row " + i + " is above the one ahead", now > before, true);
            before = now;
        }
        due("row beyond", x.rowAt(15, 3, rows, 0), NONE);
    }

    // ---- 25, 26

    private static void oftenAndPinned() {
        Procession x = new Procession();
        due("often(7, 0, 3, 1)", x.often(7, 0, 3, 1), 1);
        due("often(7, 0, 2, 0)", x.often(7, 0, 2, 0), 1);
        due("often(7, 0, 1, 0)", x.often(7, 0, 1, 0), 0);
        due("often(1, 2, 1, 3)", x.often(1, 2, 1, 3), 1);
        due("often(1, 3, 1, 2)", x.often(1, 3, 1, 2), 2);
        due("often(3, 0, 1, 0)", x.often(3, 0, 1, 0), 0);
        due("often(7, 0, 0, 0)", x.often(7, 0, 0, 0), NONE);
        due("often(7, 0, 4, 0)", x.often(7, 0, 4, 0), NONE);
        due("often(7, 0, 9, 0)", x.often(7, 0, 9, 0), NONE);
        due("often(7, 0, 1, 6)", x.often(7, 0, 1, 6), NONE);
        due("often(7, 0, 1, -1)", x.often(7, 0, 1, -1), NONE);
        due("often(7, 11, 1, 0)", x.often(7, 11, 1, 0), NONE);
        long all = 0;
        for (int place = 0; place < 16; place++) {
            all += x.often(255, 0, 5, place);
        }
        due("each row has two places of 5", all, 600);
        due("pinned(7, 0)", x.pinned(7, 0), 0);
        due("pinned(1, 1)", x.pinned(1, 1), 1);
        due("pinned(1, 2)", x.pinned(1, 2), 0);
        due("pinned(3, 0)", x.pinned(3, 0), NONE);
        due("pinned(0, 4)", x.pinned(0, 4), 0);
        due("pinned(0, 17)", x.pinned(0, 17), NONE);
        due("pinned(-1, 0)", x.pinned(-1, 0), NONE);
        // 5 and 1: 5 at 0 and 6, 1 at 1, 2 or 3 .. of seven places
        due("pinned(17, 3)", x.pinned(17, 3), 16);
        x = ruledBy("between number*2-2;");
        due("four in one another", x.rows(15, 0), 1);
        due("pinned(15, 0)", x.pinned(15, 0), 15);
    }

    // ---- 27, 28

    private static void fewestAndKinds() {
        Procession x = new Procession();
        due("fewest(0)", x.fewest(0), 0);
        due("fewest(1)", x.fewest(1), 1);
        due("fewest(128)", x.fewest(128), 8);
        due("fewest(7)", x.fewest(7), 0);
        due("fewest(31)", x.fewest(31), 1);
        due("fewest(255)", x.fewest(255), 0);
        due("fewest(-1)", x.fewest(-1), NONE);
        due("fewest(256)", x.fewest(256), NONE);
        due("kinds(7, 0)", x.kinds(7, 0), 1);
        due("kinds(255, 0)", x.kinds(255, 0), 150);
        due("kinds(0, 3)", x.kinds(0, 3), 1);
        due("kinds(1, 1)", x.kinds(1, 1), 1);
        due("kinds(1, 3)", x.kinds(1, 3), 2);
        due("kinds(3, 0)", x.kinds(3, 0), 0);
        due("kinds(1, 15)", x.kinds(1, 15), NONE);
        due("kinds(-1, 0)", x.kinds(-1, 0), NONE);
        // 3 1 0 1 3 is its own turned one; 1 3 1 0 0 3 and the like are not
        due("rows(5, 1)", x.rows(5, 1), 1);
        due("kinds(5, 1)", x.kinds(5, 1), 1);
        due("rows(5, 2)", x.rows(5, 2), 4);
        due("kinds(5, 2)", x.kinds(5, 2), 2);
        x = ruledBy("between 14;");
        due("two can't be", x.fewest(3), NONE);
        due("one can", x.fewest(8), 14);
        x = ruledBy("between number*2-2;");
        due("kinds(15, 0)", x.kinds(15, 0), 1);
        x = ruledBy("between 2;");
        // 1 and 2 alike: none is its own turned one
        due("rows(3, 2)", x.rows(3, 2), 6);
        due("kinds(3, 2)", x.kinds(3, 2), 3);
    }

    // ---- 29

    private static void rounds() {
        Procession x = new Procession();
        due("rounds(0)", x.rounds(0), 1);
        due("rounds(1)", x.rounds(1), 0);
        due("rounds(2): twice around", x.rounds(2), 1);
        due("rounds(8): 4 of two places", x.rounds(8), 1);
        due("rounds(7)", x.rounds(7), 6);
        due("rounds(-1)", x.rounds(-1), NONE);
        due("rounds(256)", x.rounds(256), NONE);
        due("rounds(255)", x.rounds(255), 6656);
        x = ruledBy("between 0;");
        due("two side by side", x.rounds(3), 4);
        due("three side by side", x.rounds(7), 12);
        x = ruledBy("between 1;");
        due("two opposite", x.rounds(3), 2);
        x = ruledBy("between 3;");
        due("to its own place", x.rounds(3), 0);
        due("of six places", x.rounds(7), 0);
        x = ruledBy("between 5;");
        due("once around and two on", x.rounds(3), 2);
    }

    // ---- 30

    private static void threes() {
        Procession x = new Procession();
        due("threes(0)", x.threes(0), 1);
        due("threes(1)", x.threes(1), 0);
        due("threes(31)", x.threes(31), 0);
        due("threes(63)", x.threes(63), NONE);
        due("threes(-1)", x.threes(-1), NONE);
        due("threes(256)", x.threes(256), NONE);
        x = ruledBy("between 0;");
        due("one", x.threes(128), 1);
        due("five side by side", x.threes(31), 120);
        x = ruledBy("between number-1;");
        due("one of 0 between", x.threes(1), 1);
        due("one of 1 between", x.threes(2), 0);
        x = ruledBy("between 1;");
        due("two in one another", x.threes(3), 2);
        x = ruledBy("between 2;");
        due("three in one another", x.threes(7), 6);
    }

    // ---- 31, 32, 33

    private static void ways() {
        Procession x = new Procession();
        due("ways(0)", x.ways(0), 1);
        due("ways(1)", x.ways(1), 6);
        due("ways(64)", x.ways(64), 0);
        due("ways(-1)", x.ways(-1), NONE);
        due("ways(256)", x.ways(256), NONE);
        due("fill(1, 0)", x.fill(1, 0), NONE);
        due("fill(1, 9)", x.fill(1, 9), NONE);
        due("fill(-1, 1)", x.fill(-1, 1), NONE);
        due("fill(256, 1)", x.fill(256, 1), NONE);
        due("fill(6, 2)", x.fill(6, 2), 0);
        due("fill(6, 3)", x.fill(6, 3), 1);
        due("fill(6, 4)", x.fill(6, 4), NONE);
        due("forced(-1)", x.forced(-1), NONE);
        due("forced(256)", x.forced(256), NONE);
        due("forced(64)", x.forced(64), NONE);
        due("forced(32)", x.forced(32), 32);
        due("forced(16)", x.forced(16), 0);
        x.length(7);
        due("forced(32)", x.forced(32), NONE);
        due("forced(16)", x.forced(16), 16);
        due("forced(48)", x.forced(48), NONE);
        due("fill(48, 5)", x.fill(48, 5), NONE);
        x.join(1, 1);
        due("ways(1) stands", x.ways(1), 1);
        due("ways(17)", x.ways(17), 1);
        due("forced(17): just those that don't stand", x.forced(17), 16);
        due("forced(1)", x.forced(1), 0);
        due("fill(16, 1): its own", x.fill(16, 1), 1);
        due("fill(16, 5)", x.fill(16, 5), 0);
        due("fill(0, 1)", x.fill(0, 1), 1);
        due("fill(32, 1): no way", x.fill(32, 1), NONE);
        due("ways(6): 2 at 2, 3 at 0", x.ways(6), 1);
        due("forced(6)", x.forced(6), 6);
        due("ways(14)", x.ways(14), 0);
        due("ways(2)", x.ways(2), 1);
        due("fill(2, 2)", x.fill(2, 2), 2);
        due("nothing has changed", x.is(3), 1);
        x = new Procession();
        x.length(6);
        due("ways(7)", x.ways(7), 2);
        // 1 at 1: 3 1 2 1 3 2; 1 at 2: 2 3 1 2 1 3
        due("fill(7, 1)", x.fill(7, 1), 1);
        due("fill(7, 2)", x.fill(7, 2), 2);
        due("fill(7, 3)", x.fill(7, 3), 0);
    }

    // ---- 34

    private static void staying() {
        Procession x = new Procession();
        due("stay(0)", x.stay(0), 0);
        due("stay(-1)", x.stay(-1), NONE);
        due("stay(256)", x.stay(256), NONE);
        due("stay(7)", x.stay(7), 0);
        due("stay(64)", x.stay(64), NONE);
        x.length(6);
        x.join(1, 1);
        x.join(2, 2);
        due("stay(7)", x.stay(7), 3);
        due("stay(1)", x.stay(1), 1);
        due("stay(4): those aside leave", x.stay(4), 0);
        due("stay(15)", x.stay(15), NONE);
        x.leave(2);
        due("stay(7): 1 stays", x.stay(7), 1);
        x = ruledBy("between if walk=0 then 1 else 3 end;");
        x.join(1, 0);
        due("it stays though between is other now", x.stay(1), 1);
        due("the others by between as now", x.stay(3), 1);
        x.length(3);
        due("stay(2) of three places", x.stay(2), NONE);
        due("stay(1)", x.stay(1), 1);
    }

    // ---- 35

    private static void likely() {
        Procession x = new Procession();
        due("likely(-1, true)", x.likely(-1, true), NONE);
        due("likely(256, false)", x.likely(256, false), NONE);
        due("likely(255, false)", x.likely(255, false), 300 / 60);
        due("likely(255, true)", x.likely(255, true), 14L * 13 * 12 * 11 * 10 * 9 * 8 * 7 / 60);
        due("likely(3, false)", x.likely(3, false), 0);
        due("likely(3, true)", x.likely(3, true), 1);
        due("likely(128, true): none", x.likely(128, true), 1);
        x = ruledBy("between 0;");
        due("likely(255, true)", x.likely(255, true), 2562890625L / 45);
        due("likely(255, false)", x.likely(255, false), 40320 / 45);
        due("likely(3, false)", x.likely(3, false), 2);
        due("likely(3, true)", x.likely(3, true), 9);
    }

    // ---- 36

    private static void most() {
        Procession x = new Procession();
        int[] many = {0, 0, 1, 1, 2, 3, 3, 4, 4, 5, 5, 6, 6, 7, 7, 8};
        for (int places = 1; places <= 16; places++) {
            due("most(" + places + ", true)", x.most(places, true), many[places - 1]);
        }
        due("most(2, false)", x.most(2, false), 0);
        due("most(4, false)", x.most(4, false), 1);
        due("most(5, false)", x.most(5, false), 3);
        due("most(0, true)", x.most(0, true), NONE);
        due("most(17, false)", x.most(17, false), NONE);
        x = ruledBy("between 8-number;");
        due("most(2, false)", x.most(2, false), 128);
        due("most(3, false)", x.most(3, false), 64);
        due("most(4, false): 6 8 8 6", x.most(4, false), 160);
        x.length(16);
        x.join(8, 0);
        due("who stands doesn't matter", x.most(2, false), 128);
        x = ruledBy("between 2;");
        due("of like ones the lowest set", x.most(4, false), 1);
        due("most(5, false)", x.most(5, false), 3);
    }

    // ---- 37, 38

    private static void games() {
        Procession x = new Procession();
        due("game(0, 1)", x.game(0, 1), NONE);
        due("game(11, 1)", x.game(11, 1), NONE);
        due("game(5, -1)", x.game(5, -1), NONE);
        due("game(5, 256)", x.game(5, 256), NONE);
        due("game(5, 63)", x.game(5, 63), NONE);
        due("play(5, 63)", x.play(5, 63), NONE);
        due("play(0, 1)", x.play(0, 1), NONE);
        due("play(11, 1)", x.play(11, 1), NONE);
        due("game(10, 0)", x.game(10, 0), 0);
        due("play(10, 0)", x.play(10, 0), NONE);
        due("game(2, 1)", x.game(2, 1), 0);
        due("game(3, 1)", x.game(3, 1), 1);
        due("game(10, 1)", x.game(10, 1), 1);
        due("play(10, 16)", x.play(10, 16), 500);
        // five places, 1 and 2: 1 at 0 leaves 1, 3, 4: 2 stands at 1, 4. 1 at 1 leaves 0, 2, 4: none
        due("game(5, 3)", x.game(5, 3), 1);
        due("play(5, 3)", x.play(5, 3), 101);
        x = ruledBy("between 0;");
        due("two of four places", x.game(4, 3), 1);
        due("play(4, 3): in the middle", x.play(4, 3), 101);
        due("two of five places", x.game(5, 3), 0);
        due("play(5, 3)", x.play(5, 3), NONE);
        due("five of ten", x.game(10, 31), 1);
        x.join(1, 0);
        due("an empty row", x.game(4, 3), 1);
    }

    // ---- 39, 40

    private static void whoseLaw() {
        Procession x = new Procession();
        due("whose() without texts", x.whose(), 0);
        due("said(0, 1)", x.said(0, 1), -2);
        due("said(9, 1)", x.said(9, 1), -2);
        due("said(-2, 1)", x.said(-2, 1), -2);
        due("said(1, -1)", x.said(1, -1), -2);
        due("said(1, 15)", x.said(1, 15), -2);
        due("said(NONE, 99)", x.said(NONE, 99), 0);
        read(x, "between number;");
        read(x, "between 20;");
        read(x, "tires 3;");
        read(x, "between day;");
        due("whose() of nothing said", x.whose(), 15);
        due("said(3, 3)", x.said(3, 3), 1);
        due("whose()", x.whose(), 1 | 4);
        due("said(NONE, 0)", x.said(NONE, 0), 0);
        due("said(3, 14)", x.said(3, 14), 1);
        due("whose()", x.whose(), 2);
        x.said(NONE, 0);
        x.day(5);
        due("said(5, 5)", x.said(5, 5), 1);
        due("whose() as now", x.whose(), 1 | 4 | 8);
        due("said(5, 5) again", x.said(5, 5), 2);
        due("said(6, 6)", x.said(6, 6), 3);
        due("whose()", x.whose(), 1 | 4);
        for (int i = 4; i <= 8; i++) {
            due("said " + i, x.said(1, 0), i);
        }
        due("said beyond 8", x.said(1, 0), -2);
        due("about(3)", x.about(3), 8);
        due("whose()", x.whose(), 0);
        due("said(NONE, 0)", x.said(NONE, 0), 0);
        due("said(8, 14)", x.said(8, 14), 1);
        due("said(8, 0)", x.said(8, 0), 2);
        due("said(1, 0)", x.said(1, 0), 3);
    }

    // ---- 41 to 47

    private static void shapes() {
        Procession x = new Procession();
        due("eldest()", x.eldest(), NONE);
        due("widest()", x.widest(), NONE);
        due("mirror()", x.mirror(), true);
        due("crossed()", x.crossed(), 0);
        due("nested()", x.nested(), 0);
        due("spread()", x.spread(), 0);
        due("room()", x.room(), 8);
        x = ruledBy("tires 0;between if number>4 then 1 else number end;");
        x.length(16);
        x.join(3, 4);
        x.day(1);
        x.join(1, 5);
        x.join(2, 0);
        // 2..231.13.......
        due("eldest()", x.eldest(), 3);
        due("widest()", x.widest(), 3);
        due("crossed()", x.crossed(), 0);
        due("nested()", x.nested(), 1);
        due("spread()", x.spread(), 9);
        due("room()", x.room(), 7);
        x.shift(6);
        due("spread()", x.spread(), 9);
        due("room()", x.room(), 6);
        x.leave(1);
        x.join(1, 13);
        // ......2..23..131
        due("crossed()", x.crossed(), 1);
        due("nested()", x.nested(), 0);
        due("spread()", x.spread(), 10);
        x.join(5, 5);
        // .....525.23..131
        due("crossed()", x.crossed(), 2);
        due("room()", x.room(), 5);
        due("widest()", x.widest(), 3);
        x.leave(3);
        due("eldest(): of like ones the lowest", x.eldest(), 1);
        due("widest()", x.widest(), 2);
        x.leave(2);
        due("widest(): of like ones the lowest", x.widest(), 1);
        x = ruledBy("tires 0;between 4-number*2;");
        x.length(6);
        x.join(1, 1);
        due("one in the middle", x.mirror(), true);
        x.shift(1);
        due("one aside", x.mirror(), false);
        x = new Procession();
        x.length(5);
        x.join(3, 0);
        x.join(1, 1);
        due("two in the middle", x.mirror(), true);
        due("nested()", x.nested(), 1);
        due("room()", x.room(), 1);
        due("spread()", x.spread(), 5);
        x.length(6);
        due("not of six places", x.mirror(), false);
        x = ruledBy("between 0;");
        x.length(4);
        x.join(1, 0);
        x.join(2, 2);
        due("turned they change their places", x.mirror(), false);
        due("room() of none", x.room(), 0);
        due("side by side", x.crossed() + x.nested(), 0);
    }

    // ---- 49, 50

    private static void images() {
        Procession x = ruledBy("tires 0;");
        x.join(1, 0);
        x.day(3);
        x.said(2, 2);
        due("image()", x.image(), 3);
        read(x, "between 9;");
        x.by(1);
        x.said(3, 3);
        x.length(12);
        x.leave(1);
        x.day(7);
        put(x, "turn;");
        due("back()", x.back(), 3);
        due("is(0)", x.is(0), 3);
        due("is(2)", x.is(2), 8);
        due("is(3)", x.is(3), 1);
        due("of(1, 2)", x.of(1, 2), 3);
        due("about(0)", x.about(0), 1);
        due("about(1)", x.about(1), 0);
        due("about(2)", x.about(2), 4);
        due("about(3)", x.about(3), 1);
        due("the tape is none of it", x.about(4), 5);
        due("by(1)", x.by(1), false);
        due("text()", x.text(), 1);
        due("book(-1, 0)", x.book(NONE, 0), 1);
        due("undo()", x.undo(), 3);
        due("is(0)", x.is(0), 2);
        due("back() again, it stays", x.back(), 3);
        due("about(2)", x.about(2), 4);
        due("about(0)", x.about(0), 1);
        while (x.undo() != NONE) {
            due("going back", x.about(2) >= 0, true);
        }
        due("is(3)", x.is(3), 0);
        due("image() ahead of all", x.image(), 0);
        x.day(1);
        due("back()", x.back(), 0);
        due("undo()", x.undo(), NONE);
    }

    // ---- 51

    private static void abouts() {
        Procession x = new Procession();
        due("about(-1)", x.about(-1), -2);
        due("about(5)", x.about(5), -2);
        read(x, "turn;");
        read(x, "turn;");
        x.by(1);
        x.length(9);
        x.length(10);
        x.length(11);
        x.said(1, 1);
        x.said(1, 1);
        x.said(1, 1);
        x.said(1, 1);
        x.feed(1, 1, 1, 1, 1);
        int[] about = {2, 1, 3, 4, 20};
        for (int what = 0; what < 5; what++) {
            due("about(" + what + ")", x.about(what), about[what]);
        }
    }
}
