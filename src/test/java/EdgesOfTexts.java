/** The terms of II: tokens, the grammar, what sums are worth, faults, laws and scripts that are played. */
final class EdgesOfTexts {
    private static final int NONE = Edge.NONE;

    private EdgesOfTexts() {
    }

    static void run() {
        fourTexts();
        tokens();
        numberTokens();
        signTokens();
        clauses();
        sums();
        ones();
        standsAndFree();
        asks();
        names();
        arithmetic();
        bounds();
        bothSides();
        firstFault();
        leastFault();
        faultOne();
        faultTwo();
        faultThree();
        faultFourToSix();
        ruling();
        played();
        playedDays();
    }

    private static void due(String call, long got, long want) {
        Edge.due(call, got, want);
    }

    private static void due(String call, boolean got, boolean want) {
        Edge.due(call, got, want);
    }

    private static String many(String part, int times) {
        return Edge.many(part, times);
    }

    private static void fault(String text, int kind, int place) {
        Procession x = new Procession();
        due("text of '" + text + "'", Edge.read(x, text), kind == 0 ? 0 : NONE);
        due("fault(0) of '" + text + "'", x.fault(0), kind);
        due("fault(1) of '" + text + "'", x.fault(1), kind == 0 ? NONE : place);
        due("about(0) of '" + text + "'", x.about(0), kind == 0 ? 1 : 0);
    }

    private static void fine(String text) {
        fault(text, 0, 0);
    }

    /** What between is worth of number 5 in a new row. */
    private static void worth(String sum, int want) {
        due("between " + sum, Edge.ruledBy("between " + sum + ";").of(5, 3), want);
    }

    private static void fourTexts() {
        Edge.told(0, "TEXTS 0 .. 3: of up to 300 bytes.");
        Procession x = new Procession();
        for (int i = 0; i < 4; i++) {
            due("text " + i, Edge.read(x, "tires " + i + ";"), i);
            due("about(0)", x.about(0), i + 1);
        }
        due("a fifth", Edge.read(x, "tires 4;"), NONE);
        due("about(0)", x.about(0), 4);
        for (int i = 0; i < 4; i++) {
            x.by(i);
            due("the text " + i, x.of(1, 4), i);
        }
        due("by(4)", x.by(4), false);
        fine("");
        fine(many(" ", 300));
        fine(many("\n", 295) + "turn;");
        fault(many(" ", 296) + "turn", 1, 300);
        fault(many("(", 300), 1, 0);
        fault(many("a", 300), 1, 0);
        fault(many("1", 300), 1, 0);
        fine("tires 1" + many("+1", 146) + ";");
        fault("tires 1" + many("+1", 146) + "+", 1, 300);
        fault("tires " + many("9", 294), 2, 6);
        fine("day " + many("0", 294) + "1;");
        x = Edge.ruledBy("tires 1" + many("+0", 144) + "+7  ;");
        due("tires of 300 bytes", x.of(1, 4), 8);
        // four long ones, with faults among them
        x = new Procession();
        for (int i = 0; i < 4; i++) {
            due("a fault", Edge.read(x, "between 0" + many("+0", 140) + "+"), NONE);
            due("a long text", Edge.read(x, "between 0" + many("+0", 70) + "+" + i + ";tires 1" + many("*1", 65) + ";"), i);
        }
        for (int i = 0; i < 4; i++) {
            x.by(i);
            due("between of text " + i, x.of(1, 3), i);
            due("tires of text " + i, x.of(1, 4), 1);
        }
    }

    private static void tokens() {
        Edge.told(0, "TOKENS, blanks (32, 10) aside: letters a .. z, A .. Z one behind the other (one TOKEN), digits "
                + "likewise (NUMBERS, 0 .. 9999), <= >= < > = # + - * / ( ) ; (the longest).");
        for (int sign = 0; sign < 256; sign++) {
            String text = "turn" + (char) sign + ";";
            boolean letter = sign >= 'a' && sign <= 'z' || sign >= 'A' && sign <= 'Z';
            if (sign == 32 || sign == 10) {
                fine(text);
            } else if (letter) {
                fault(text, 1, 0);
            } else {
                fault(text, 1, sign == ';' ? 5 : 4);
            }
        }
        fine("\n turn \n ; \n");
        fine("turn;turn;");
        fault("tu rn;", 1, 0);
        fault("turnturn;", 1, 0);
        fault("TURN;", 1, 0);
        fault("tires Day;", 1, 6);
        fault("tires daY;", 1, 6);
        fault("turndayturn;", 1, 0);
        fault("tur", 1, 0);
        fault("turn;t", 1, 5);
        fine("tires since+first*walk;");
        fault("tires sincefirst;", 1, 6);
    }

    private static void numberTokens() {
        fine("day 60;");
        fault("day 6 0;", 1, 6);
        fine("day60;");
        fine("join 1at 2;");
        fine("join 1at2;");
        fault("join1 at2 3;", 1, 10);
        fine("long16;");
        fault("1long;", 1, 0);
        fault("tires 1a;", 1, 7);
        fault("tires a1;", 1, 6);
        fine("tires 0;");
        fine("tires 0000;");
        fine("tires 9999;");
        fine("tires 09999;");
        fault("tires 10000;", 2, 6);
        fault("tires 1.5;", 1, 7);
        worth("0012", 12);
        fault("between 1 2;", 1, 10);
    }

    private static void signTokens() {
        for (String sign : new String[] {"<=", ">=", "<", ">", "=", "#"}) {
            fine("tires if 1" + sign + "2 then 1 else 2 end;");
            fine("tires if 1" + sign + "-2 then 1 else 2 end;");
            fine("tires if(1)" + sign + "(2)then 1 else 2end;");
        }
        fault("tires if 1< =2 then 1 else 2 end;", 1, 12);
        fault("tires if 1> =2 then 1 else 2 end;", 1, 12);
        fault("tires if 1=<2 then 1 else 2 end;", 1, 11);
        fault("tires if 1=>2 then 1 else 2 end;", 1, 11);
        fault("tires if 1==2 then 1 else 2 end;", 1, 11);
        fault("tires if 1<<2 then 1 else 2 end;", 1, 11);
        fault("tires if 1<>2 then 1 else 2 end;", 1, 11);
        fault("tires if 1<==2 then 1 else 2 end;", 1, 12);
        fault("tires if 1#=2 then 1 else 2 end;", 1, 11);
        fault("tires if 1<", 1, 11);
        fault("tires if 1<=", 1, 12);
        fault("tires if 1>", 1, 11);
        worth("if 2<=2 then 1 else 2 end", 1);
        worth("if 2>=2 then 1 else 2 end", 1);
        worth("if 2<2 then 1 else 2 end", 2);
        worth("if 2>2 then 1 else 2 end", 2);
    }

    private static void clauses() {
        Edge.told(0, "{CLAUSE}, 24 at most: between SUM ; or tires SUM ; (each once) or long NUMBER ; or join NUMBER at "
                + "NUMBER ; (number, place) or leave NUMBER ; or turn ; or day NUMBER ;.");
        fine("");
        fine(many("turn;", 24));
        fault(many("turn;", 25), 6, 120);
        fine("between 1;" + many("turn;", 22) + "tires 1;");
        fine("tires 1;between 1;");
        fault("between 1;between 1;", 4, 10);
        fault("tires 1;tires 1;", 4, 8);
        fine("long 9;long 9;join 1 at 1;join 1 at 1;leave 1;leave 1;turn;turn;day 1;day 1;");
        fault("between;", 1, 7);
        fault("tires;", 1, 5);
        fault("long;", 1, 4);
        fault("long 9 9;", 1, 7);
        fault("join;", 1, 4);
        fault("join 1;", 1, 6);
        fault("join at 1;", 1, 5);
        fault("join 1 1;", 1, 7);
        fault("join 1 at;", 1, 9);
        fault("join 1 at 1 1;", 1, 12);
        fault("leave;", 1, 5);
        fault("leave 1 1;", 1, 8);
        fault("turn 1;", 1, 5);
        fault("day;", 1, 3);
        fault("day 1 1;", 1, 6);
        for (String clause : new String[] {"between 1", "tires 1", "long 9", "join 1 at 1", "leave 1", "turn", "day 1"}) {
            fine(clause + ";");
            fault(clause, 1, clause.length());
            fault(clause + " turn;", 1, clause.length() + 1);
            fault(clause + ";;", 1, clause.length() + 1);
        }
        Procession x = new Procession();
        Edge.read(x, "join 3 at 1;");
        due("number, then place", x.played(0), NONE);
        due("of(3, 0)", x.of(3, 0), 1);
    }

    private static void sums() {
        Edge.told(0, "SUM: PRODUCT {+ or - PRODUCT}. PRODUCT: ONE {* or / ONE}.");
        worth("2+3*2", 8);
        worth("2*3+2", 8);
        worth("9-4/2", 7);
        worth("9-6/2*3+1", 1);
        worth("1+1-1*1/1", 1);
        worth("9", 9);
        fault("tires +1;", 1, 6);
        fault("tires *1;", 1, 6);
        fault("tires /1;", 1, 6);
        fault("tires 1+;", 1, 8);
        fault("tires 1-;", 1, 8);
        fault("tires 1*;", 1, 8);
        fault("tires 1/;", 1, 8);
        fault("tires 1+*2;", 1, 8);
        fault("tires 1*+2;", 1, 8);
        fault("tires 1*/2;", 1, 8);
        fine("tires 1*-2;");
        fine("tires 1+-2;");
        fine("tires 1--2;");
        fault("tires 1<2;", 1, 7);
        fault("tires 1=2;", 1, 7);
        fault("tires 1 or 2;", 1, 8);
    }

    private static void ones() {
        Edge.told(0, "ONE: NUMBER, NAME, ( SUM ), - ONE, stands ONE (1, if that number stands, else 0), free ONE (1, if that "
                + "place is one of the row and free, else 0), if EITHER then SUM else SUM end.");
        worth("(2+3)*2", 10);
        worth("((((((((3))))))))", 3);
        worth("-3+9", 6);
        worth("-(3-9)", 6);
        worth("- - -3+9", 6);
        worth("9--3", 12);
        worth("2*-3+9", 3);
        worth("-2*-3", 6);
        worth("if 1=1 then 2+3 else 4 end*2", 10);
        worth("2*if 1=2 then 2+3 else 4 end", 8);
        worth("-if 1=2 then 2 else 4 end+9", 5);
        worth("if 1=1 then if 1=2 then 1 else 2 end else 3 end", 2);
        worth("if if 1=2 then 1 else 2 end=2 then 7 else 3 end", 7);
        fault("tires ();", 1, 7);
        fault("tires (1;", 1, 8);
        fault("tires 1);", 1, 7);
        fault("tires -;", 1, 7);
        fault("tires stands;", 1, 12);
        fault("tires free;", 1, 10);
        fault("tires stands+1;", 1, 12);
        fault("tires if;", 1, 8);
        fault("tires if 1=1;", 1, 12);
        fault("tires if 1=1 then;", 1, 17);
        fault("tires if 1=1 then 2;", 1, 19);
        fault("tires if 1=1 then 2 else;", 1, 24);
        fault("tires if 1=1 then 2 else 3;", 1, 26);
        fault("tires if 1=1 else 2 end;", 1, 13);
        fault("tires if 1=1 then 2 end;", 1, 20);
        fault("tires then;", 1, 6);
        fault("tires end;", 1, 6);
    }

    private static void standsAndFree() {
        // 2 stands at 0 and 3, 1 at 4 and 6, of eight places
        int[] stands = {0, 0, 1, 1, 0, 0, 0, 0, 0, 0, 0};
        for (int number = -1; number <= 9; number++) {
            law("stands(" + number + ")", stands[number + 1]);
        }
        law("stands 9999", 0);
        law("stands(9999*9999)", 0);
        law("stands(0-9999*9999)", 0);
        int[] free = {0, 0, 1, 1, 0, 0, 1, 0, 1, 0, 0};
        for (int place = -1; place <= 9; place++) {
            law("free(" + place + ")", free[place + 1]);
        }
        law("free 32", 0);
        law("free 33", 0);
        law("free(0-31)", 0);
        law("free 9999", 0);
        law("free(9999*9999)", 0);
        law("free(0-9999*9999)", 0);
        // of one ONE alone
        law("stands 1+1", 2);
        law("free 1*4", 4);
        law("stands stands 1", 1);
        law("stands free 1", 1);
        law("free stands 1", 1);
        law("free - 1", 0);
        law("-stands 1+3", 2);
        law("stands if 1=1 then 2 else 3 end", 1);
    }

    /** What a law is worth in the row of the busy object; by between and by tires it is the same. */
    private static void law(String sum, int want) {
        Procession x = Edge.busy();
        x.end(0);
        due("a law of " + sum, Edge.read(x, "between " + sum + ";tires " + sum + ";"), 1);
        x.by(1);
        due("between " + sum, x.of(7, 3), want);
        due("tires " + sum, x.of(7, 4), want);
    }

    private static void asks() {
        Edge.told(0, "EITHER: BOTH {or BOTH}. BOTH: ASK {and ASK}.");
        String yes = "1=1";
        String no = "1=2";
        asked(yes + " or " + no, true);
        asked(no + " or " + yes, true);
        asked(no + " or " + no, false);
        asked(yes + " and " + no, false);
        asked(no + " and " + yes, false);
        asked(yes + " and " + yes, true);
        asked(yes + " or " + no + " and " + no, true);
        asked(no + " and " + no + " or " + yes, true);
        asked(no + " and " + yes + " or " + no, false);
        asked(no + " or " + no + " or " + yes, true);
        asked(yes + " and " + yes + " and " + no, false);
        fault("tires if 1=1 or then 1 else 2 end;", 1, 16);
        fault("tires if 1=1 and then 1 else 2 end;", 1, 17);
        fault("tires if or 1=1 then 1 else 2 end;", 1, 9);
        fault("tires if and 1=1 then 1 else 2 end;", 1, 9);
        Edge.told(0, "ASK: not ASK, or SUM one of < <= > >= = # (unlike) SUM.");
        asked("not " + no, true);
        asked("not " + yes, false);
        asked("not not " + yes, true);
        asked("not " + no + " and " + no, false);
        asked("not " + yes + " or " + yes, true);
        for (int left = 1; left <= 3; left++) {
            asked(left + "<2", left < 2);
            asked(left + "<=2", left <= 2);
            asked(left + ">2", left > 2);
            asked(left + ">=2", left >= 2);
            asked(left + "=2", left == 2);
            asked(left + "#2", left != 2);
        }
        asked("-1<0", true);
        asked("1+1=4/2", true);
        fault("tires if 1 then 1 else 2 end;", 1, 11);
        fault("tires if (1=1) then 1 else 2 end;", 1, 11);
        fault("tires if 1=1=1 then 1 else 2 end;", 1, 12);
        fault("tires if not then 1 else 2 end;", 1, 13);
        fault("tires if not 1 then 1 else 2 end;", 1, 15);
        fault("tires if 1=not 1 then 1 else 2 end;", 1, 11);
        fault("tires if =1 then 1 else 2 end;", 1, 9);
        fault("tires if 1= then 1 else 2 end;", 1, 12);
        fault("tires not 1=1;", 1, 6);
    }

    private static void asked(String either, boolean want) {
        worth("if " + either + " then 3 else 4 end", want ? 3 : 4);
    }

    private static void names() {
        Edge.told(0, "NAMES: day, number, long (LENGTH), walk (how many numbers stand) in both; since (of it), first (its "
                + "first place; -1, if it doesn't stand) in tires; last (which joined latest by BOOK as it is; 0: none in it) "
                + "in between.");
        law("day", 1);
        law("number", 7);
        law("long", 8);
        law("walk", 2);
        Procession x = Edge.ruledBy("between day*5+walk*3+long;tires 0;");
        x.length(1);
        due("long is 1", x.of(1, 3), 1);
        x.day(2);
        due("day is 2", x.of(1, 3), 11);
        x = Edge.ruledBy("tires first+5;");
        due("first of one that doesn't stand is -1", x.of(1, 4), 4);
        x.join(1, 0);
        due("first 0", x.of(1, 4), 5);
        x.shift(5);
        due("first 5", x.of(1, 4), 10);
        x = Edge.ruledBy("tires since;");
        due("since of one that doesn't stand", x.of(1, 4), 0);
        x.join(1, 0);
        x.day(1);
        due("since of it", x.of(1, 4), 1);
        due("since of another", x.of(2, 4), 0);
        x = Edge.ruledBy("between last;");
        due("last: none in the book", x.of(4, 3), 0);
        x.join(3, 0);
        due("last: 3", x.of(4, 3), 3);
        x.join(2, 3);
        due("last: 2", x.of(4, 3), 2);
        x.leave(2);
        due("last: 2, though it left", x.of(4, 3), 2);
        x.leave(3);
        x.undo();
        x.undo();
        x.undo();
        due("last: 3, the book being as it was", x.of(4, 3), 3);
        x.undo();
        due("last: none in the book", x.of(4, 3), 0);
        lastOfAFullBook();
        lastOfAllKinds();
        fine("between day+number+long+walk+last;tires day+number+long+walk+since+first;");
    }

    private static void lastOfAFullBook() {
        Procession x = Edge.ruledBy("between last;");
        x.by(NONE);
        for (int i = 0; i < 12; i++) {
            x.join(1, 0);
            x.leave(1);
        }
        x.join(3, 0);
        due("book(-1, 0)", x.book(NONE, 0), 25);
        x.by(0);
        due("last of a full book: its latest line", x.of(5, 3), 3);
        x.leave(3);
        due("last of a full book: the line ahead of it", x.of(5, 3), 3);
        x.undo();
        x.undo();
        due("last: 1", x.of(5, 3), 1);
    }

    private static void lastOfAllKinds() {
        Procession x = Edge.ruledBy("between last;tires if number=3 then 10 else 0 end;");
        x.length(16);
        x.by(NONE);
        x.join(3, 8);
        x.join(2, 10);
        x.by(0);
        due("last: 2, at a place above seven", x.of(5, 3), 2);
        x.day(1);
        due("last: 2, though 3 is gone tired since", x.of(5, 3), 2);
        x.undo();
        x.shift(-8);
        x.day(1);
        due("last: 2, though 3 is gone tired from place 0", x.of(5, 3), 2);
        x.undo();
        x.leave(3);
        due("last: 2, though 3 left since", x.of(5, 3), 2);
    }

    private static void arithmetic() {
        Edge.told(0, "From the left; / cuts towards 0, by 0 it is 0; what is above 1000000 (below the same less) is that, at "
                + "each step.");
        worth("9-3-2", 4);
        worth("9-3+2", 8);
        worth("8/4/2", 1);
        worth("8/4*2", 4);
        worth("7/2*2", 6);
        worth("2*7/2", 7);
        worth("7/2", 3);
        worth("1/2", 0);
        worth("(0-7)/2+9", 6);
        worth("7/(0-2)+9", 6);
        worth("-7/2+9", 6);
        worth("-7/-2", 3);
        worth("(0-1)/2+5", 5);
        worth("5/0", 0);
        worth("0/0+4", 4);
        worth("-5/0+4", 4);
        worth("5/(3-3)*2+1", 1);
        worth("5/walk", 0);
        worth("0/5", 0);
    }

    private static void bounds() {
        // 9999*100 is 999900
        worth("9999*100+99-9999*100-90", 9);
        worth("9999*100+100-9999*100-90", 10);
        worth("9999*100+101-9999*100-90", 10);
        worth("9999*100+9999-9999*100-90", 10);
        worth("0-9999*100-99+9999*100+110", 11);
        worth("0-9999*100-100+9999*100+110", 10);
        worth("0-9999*100-101+9999*100+110", 10);
        worth("-9999*100-9999+9999*100+110", 10);
        worth("9999*101-9999*100-90", 10);
        worth("-9999*101+9999*100+110", 10);
        worth("9999*9999*9999/9999/10", 10);
        worth("-9999*9999*9999/-9999/10", 10);
        worth("9999*9999*(9999*9999)/9999/10", 10);
        worth("9999*9999*(0-9999*9999)/-9999/10", 10);
        worth("(0-9999*9999)*(0-9999*9999)/9999/10", 10);
        // at each step, not at the end alone
        worth("9999*9999-9999*9999+3", 3);
        worth("9999*9999+9999*9999-9999*9999+3", 3);
        worth("9999*9999*0+3", 3);
        worth("-(0-9999*9999)/9999/10", 10);
        worth("if 9999*9999=9999*101 then 3 else 4 end", 3);
        worth("if 0-9999*9999=-9999*101 then 3 else 4 end", 3);
        worth("if 9999*9999>9999*100+99 then 3 else 4 end", 3);
    }

    private static void bothSides() {
        Edge.told(0, "or and and look at both sides always, of if just the SUM that is chosen is asked.");
        asked("1=1 or 1/0=5", true);
        asked("1=2 and 1/0=5", false);
        asked("1/0=0 and 1=1", true);
        asked("1/0=0 or 1=2", true);
        worth("if 1=1 then 3 else 5/0 end", 3);
        worth("if 1=2 then 5/0 else 4 end", 4);
        worth("if 1=2 then 9999*9999 else 4 end", 4);
    }

    private static void firstFault() {
        Edge.told(0, "FAULTS, the first as TOKENS are come to, at the TOKEN's first byte (of the end at the length), of one "
                + "the least:");
        fault("long 17;x;tires 1;tires 1;", 2, 5);
        fault("x;long 17;", 1, 0);
        fault("tires last;long 17;", 5, 6);
        fault("tires 1;tires last;", 4, 8);
        fault("day 61", 2, 4);
        fault("day 61 61", 2, 4);
        fault("join 9 at 16;", 2, 5);
        fault("join 9 x 16;", 2, 5);
        fault("join 8 x 16;", 1, 7);
        fault(" \n  turnip;", 1, 4);
        fault("tires 1 \n 99999;", 1, 10);
        fault("tires if 1   <=   =2 then", 1, 18);
        fault("turn", 1, 4);
        fault("turn  ", 1, 6);
        fault("turn\n\n\n", 1, 7);
        fault("tires ", 1, 6);
        fault("tires 1+", 1, 8);
        fault("tires if 1=1 then ", 1, 18);
        fault("join 1", 1, 6);
    }

    private static void leastFault() {
        fault("99999;", 1, 0);
        fault("tires 1 99999;", 1, 8);
        fault("join 1 99999;", 1, 7);
        fault("tires 1 last;", 1, 8);
        fault("between 1 since;", 1, 10);
        fault("since;", 1, 0);
        fault("turn first;", 1, 5);
        fault("tires " + many("(", 8) + "not 1;", 1, 14);
        fault("tires " + many("(", 8) + "1(", 1, 15);
        fault("tires " + many("(", 8) + "1 if", 1, 16);
        fault("tires 1 tires;", 1, 8);
        fault("tires tires;", 1, 6);
        fault(many("turn;", 24) + "x;", 1, 120);
        fault(many("turn;", 24) + "99999;", 1, 120);
        fault(many("turn;", 24) + "since;", 1, 120);
        fault(many("turn;", 24) + ";", 1, 120);
        fault("tires 1;" + many("turn;", 23) + "tires 1;", 4, 123);
        fault("between 1;" + many("turn;", 23) + "between 1;", 4, 125);
        fault("tires 1;" + many("turn;", 23) + "between 1;", 6, 123);
    }

    private static void faultOne() {
        Edge.told(0, "1 it can't stand there, or is none.");
        fault("walk 1;", 1, 0);
        fault("between turn;", 1, 8);
        fault("between at;", 1, 8);
        fault("between ;", 1, 8);
        fault("!turn;", 1, 0);
        fault("turn;\u0000", 1, 5);
        fault("turn;\u00ff", 1, 5);
        fault("turn;\t", 1, 5);
        fault("turn;\r\n", 1, 5);
        fault("turn;\u00a0", 1, 5);
        fault("tires 1&2;", 1, 7);
        fault("tires _;", 1, 6);
        for (String word : new String[] {"number", "walk", "since", "first", "last", "stands", "free", "if", "then", "else",
            "end", "or", "and", "not", "at", "(", ")", "-", "+", "*", "/", "<", ">", "=", "#", "<=", ">=", "7"}) {
            fault(word + " 1;", 1, 0);
        }
        for (String word : new String[] {"between", "tires", "join", "leave", "turn", "then", "else", "end", "or", "and",
            "not", "at", ")", "+", "*", "/", "<", ">", "=", "#", "<=", ">=", ";"}) {
            fault("tires " + word + " 1;", 1, 6);
        }
    }

    private static void faultTwo() {
        Edge.told(0, "2 a NUMBER that isn't one of those told (above 9999; LENGTH 1 .. 16, numbers 1 .. 8, places 0 .. 15, "
                + "DAYS 1 .. 60).");
        fine("between 9999;");
        fault("between 10000;", 2, 8);
        fine("tires 9999;");
        fault("tires 10000;", 2, 6);
        fault("tires 1+2147483648;", 2, 8);
        fault("tires 1+4294967296;", 2, 8);
        fault("tires 1+18446744073709551617;", 2, 8);
        fault("tires stands 10000;", 2, 13);
        fine("tires stands 9;");
        fine("tires free 16;");
        fault("long 0;", 2, 5);
        fine("long 1;");
        fine("long 16;");
        fault("long 17;", 2, 5);
        fault("long 10000;", 2, 5);
        fault("long 4294967297;", 2, 5);
        fault("join 0 at 0;", 2, 5);
        fine("join 1 at 0;");
        fine("join 8 at 15;");
        fault("join 9 at 0;", 2, 5);
        fault("join 1 at 16;", 2, 10);
        fault("join 4294967297 at 0;", 2, 5);
        fault("leave 0;", 2, 6);
        fine("leave 1;");
        fine("leave 8;");
        fault("leave 9;", 2, 6);
        fault("day 0;", 2, 4);
        fine("day 1;");
        fine("day 60;");
        fault("day 61;", 2, 4);
        fault("day 10001;", 2, 4);
    }

    private static void faultThree() {
        Edge.told(0, "3 the 9th of ( not stands free if and - (of one ONE) that are open around one another (at it).");
        fine("tires " + many("(", 8) + "1" + many(")", 8) + ";");
        fault("tires " + many("(", 9) + "1" + many(")", 9) + ";", 3, 14);
        fine("tires " + many("-", 8) + "1;");
        fault("tires " + many("-", 9) + "1;", 3, 14);
        fine("tires " + many("stands ", 8) + "1;");
        fault("tires " + many("stands ", 9) + "1;", 3, 62);
        fine("tires " + many("free ", 8) + "1;");
        fault("tires " + many("free ", 9) + "1;", 3, 46);
        fine("tires " + many("if 1=1 then ", 8) + "1" + many(" else 2 end", 8) + ";");
        fault("tires " + many("if 1=1 then ", 9) + "1", 3, 102);
        fine("tires if " + many("not ", 7) + "1=1 then 1 else 2 end;");
        fault("tires if " + many("not ", 8) + "1=1 then 1 else 2 end;", 3, 37);
        // each of them is the ninth
        String eight = "tires (if not stands(free(-";
        for (String ninth : new String[] {"(", "-", "stands", "free", "if"}) {
            fault(eight + ninth + " 1", 3, 27);
        }
        fine(eight + "1))=1 then 1 else 2 end);");
        fine("tires " + many("(", 7) + "if 1=1 then 1 else 2 end" + many(")", 7) + ";");
        fault("tires " + many("(", 7) + "if not 1=1 then", 3, 16);
        fault("tires " + many("(", 7) + "if 1=1 or not 1=1 then", 3, 23);
        // in every part of an if it is open, behind its end no more
        fine("tires if " + many("(", 7) + "1" + many(")", 7) + "=1 then 1 else 2 end;");
        fault("tires if " + many("(", 8) + "1", 3, 16);
        fault("tires if 1=" + many("(", 8) + "1", 3, 18);
        fault("tires if 1=1 then " + many("(", 8) + "1", 3, 25);
        fault("tires if 1=1 then 1 else " + many("(", 8) + "1", 3, 32);
        fine("tires if 1=1 then 1 else 2 end+" + many("(", 8) + "1" + many(")", 8) + ";");
        // those that are closed, and - of a SUM, don't count
        fine("tires " + many("(", 8) + "1" + many(")", 8) + "-" + many("(", 8) + "1" + many(")", 8) + ";");
        fine("tires 1" + many("-1", 30) + ";");
        fine("tires 1" + many("--1", 30) + ";");
        fine("tires 1" + many("-(1)", 30) + ";");
        fine("tires " + many("-", 8) + "1-" + many("-", 8) + "1*" + many("-", 8) + "1;");
        fine("tires " + many("(", 8) + "1-1-1*1" + many(")", 8) + ";");
        fine("tires if " + many("not ", 7) + "1=1 and " + many("not ", 7) + "1=1 or " + many("not ", 7)
                + "1=1 then 1 else 2 end;");
        fine("between " + many("(", 8) + "1" + many(")", 8) + ";tires " + many("(", 8) + "1" + many(")", 8) + ";");
    }

    private static void faultFourToSix() {
        Edge.told(0, "4 between, tires for the second time (at it).");
        fault("between 1;between 1;", 4, 10);
        fault("between 1; tires 1; turn;\n between", 4, 27);
        fault("tires 1;between 1;tires", 4, 18);
        fine("between 1;tires 1;");
        Edge.told(0, "5 a NAME that isn't of that CLAUSE (at it).");
        fault("between since;", 5, 8);
        fault("between 1+first;", 5, 10);
        fault("tires 2*last;", 5, 8);
        fault("tires if last=1 then", 5, 9);
        fault("between 1;tires 1+(last);", 5, 19);
        fault("tires since;between since;", 5, 20);
        fine("tires since;");
        fine("tires first;");
        fine("between last;");
        Edge.told(0, "6 the 25th CLAUSE (at its first TOKEN).");
        for (String clause : new String[] {"between 1;", "tires 1;", "long 9;", "join 1 at 1;", "leave 1;", "turn;", "day 1;"}) {
            fine(many("turn;", 23) + clause);
            fault(many("turn;", 24) + clause, 6, 120);
        }
        fault(many("turn;", 24) + "\n\n day 61;", 6, 123);
        fault(many("turn;", 24) + "day", 6, 120);
        fine(many("turn;", 24) + "\n\n ");
        fault("between 1;tires 1;" + many("turn;", 23), 6, 128);
        fault(many("turn;", 30), 6, 120);
    }

    private static void ruling() {
        Edge.told(0, "THE TEXT (told; at first none) rules. between: 0 at least, 14 at most; without: the number. tires (of "
                + "10): 0 at least, 10 at most; without: 1.");
        Procession x = new Procession();
        due("about(1) at first", x.about(1), NONE);
        Edge.read(x, "between 3;tires 7;");
        due("of(8, 3): it isn't told yet", x.of(8, 3), 8);
        due("of(8, 4)", x.of(8, 4), 1);
        x.by(0);
        due("of(8, 3)", x.of(8, 3), 3);
        due("of(8, 4)", x.of(8, 4), 7);
        x.by(NONE);
        due("of(8, 3) by none", x.of(8, 3), 8);
        due("of(1, 3) by none", x.of(1, 3), 1);
        due("of(8, 4) by none", x.of(8, 4), 1);
        worth("0", 0);
        worth("0-1", 0);
        worth("0-9999*9999", 0);
        worth("14", 14);
        worth("13+1", 14);
        worth("15", 14);
        worth("9999*9999", 14);
        int[][] tires = {{0, 0}, {1, 1}, {9, 9}, {10, 10}, {11, 10}, {9999, 10}};
        for (int[] one : tires) {
            due("tires " + one[0], Edge.ruledBy("tires " + one[0] + ";").of(1, 4), one[1]);
        }
        due("tires -1", Edge.ruledBy("tires -1;").of(1, 4), 0);
        due("tires without", Edge.ruledBy("between 2;").of(1, 4), 1);
        due("between without", Edge.ruledBy("tires 2;").of(7, 3), 7);
        x = Edge.ruledBy("");
        due("neither", x.of(6, 3) * 100 + x.of(6, 4), 601);
    }

    private static void played() {
        Edge.told(0, "PLAYED by a TEXT: its CLAUSES but laws, in their order, as by hand; one that can't be ends it (of so "
                + "many DAYS those that can pass do): its number among all CLAUSES (from 0); what was done stays.");
        Procession x = new Procession();
        Edge.read(x, "");
        Edge.read(x, "between 9;tires 10;");
        Edge.read(x, "between 0;long 16;tires 10;join 2 at 0;day 2;turn;leave 2;long 16;turn;");
        due("played(0) of no clause", x.played(0), NONE);
        due("played(1) of laws alone", x.played(1), NONE);
        due("about(2)", x.about(2), 0);
        due("played(2): LENGTH is 16", x.played(2), 7);
        due("its laws don't rule", x.about(1), NONE);
        due("between is the number", x.of(8, 3), 8);
        due("is(0)", x.is(0), 2);
        due("book(1, 3): turned", x.book(1, 3), 12);
        due("a step each", x.about(2), 6);
        due("played(2) again: at its first script clause", x.played(2), 1);
        due("about(2)", x.about(2), 6);
        due("undo()", x.undo(), 5);
        due("of(2, 0)", x.of(2, 0), 12);
        x = new Procession();
        Edge.read(x, "turn;turn;");
        due("played(0): the first can't be", x.played(0), 0);
        x.join(1, 0);
        due("played(0)", x.played(0), NONE);
        Edge.read(x, "leave 1;leave 1;");
        due("played(1)", x.played(1), 1);
        due("what was done stays", x.is(3), 0);
        Edge.read(x, "join 1 at 5;join 2 at 5;");
        due("played(2)", x.played(2), 1);
        due("of(1, 0)", x.of(1, 0), 5);
        Edge.read(x, "long 7;");
        due("played(3): 1 stands at 7", x.played(3), 0);
        // the last of 24 clauses
        x = new Procession();
        Edge.read(x, many("day 1;", 23) + "turn;");
        due("played(0)", x.played(0), 23);
        due("is(0)", x.is(0), 23);
        due("about(2)", x.about(2), 23);
        // THE TEXT rules what is played, another one too
        x = new Procession();
        Edge.read(x, "between 5;join 1 at 0;");
        Edge.read(x, "between 1;");
        x.by(1);
        due("played(0)", x.played(0), NONE);
        due("of(1, 1)", x.of(1, 1), 2);
        x.leave(1);
        x.by(0);
        due("played(0) by itself", x.played(0), NONE);
        due("of(1, 1)", x.of(1, 1), 6);
    }

    private static void playedDays() {
        Procession x = Edge.lastDay("tires 0;");
        Edge.read(x, "day 1;day 1;");
        due("played(1): no day can pass", x.played(1), 0);
        for (int i = 0; i < 10; i++) {
            x.undo();
        }
        due("is(0)", x.is(0), 9989);
        Edge.read(x, "turn;day 1;");
        due("played(2)", x.played(2), 0);
        Edge.read(x, "day 10;day 1;");
        due("played(3): all ten pass, then none", x.played(3), 1);
        due("is(0)", x.is(0), 9999);
        for (int i = 0; i < 9; i++) {
            x.undo();
        }
        due("is(0)", x.is(0), 9990);
        due("played(3): nine of ten pass", x.played(3), 0);
        due("is(0)", x.is(0), 9999);
        due("undo()", x.undo(), 29);
        due("is(0)", x.is(0), 9998);
        due("day(2) by hand: none passes", x.day(2), NONE);
        due("is(0)", x.is(0), 9998);
    }
}
