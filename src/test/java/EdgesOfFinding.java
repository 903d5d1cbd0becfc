/** The terms of III and IV: what comes, rows of all kinds, ways, odds, the game, whose law it was, how the row looks. */
final class EdgesOfFinding {
    private static final int NONE = Edge.NONE;

    private EdgesOfFinding() {
    }

    static void run() {
        changesNothing();
        askedInAnyOrder();
        betweenAsNow();
        foretold();
        canJoin();
        rows();
        rowsInOrder();
        often();
        pinned();
        fewest();
        kinds();
        rounds();
        threes();
        ways();
        lowestWay();
        forced();
        whoStays();
        likely();
        most();
        games();
        plays();
        whoseLaw();
        eldestAndWidest();
        mirrors();
        crossedAndNested();
        spreadAndRoom();
        byTheBook();
    }

    private static void due(String call, long got, long want) {
        Edge.due(call, got, want);
    }

    private static void due(String call, boolean got, boolean want) {
        Edge.due(call, got, want);
    }

    private static void still(String name, Edge.Call call, long want) {
        Edge.idleOn(Edge::busy, name, call, want);
    }

    private static void changesNothing() {
        Edge.told(0, "All that follows changes nothing but what is told; sets of numbers are bits (number 1: bit 0), 0 .. "
                + "255; between is as now of each.");
        // 2..21.1.
        still("foretold(60)", x -> x.foretold(60), 3);
        still("can(3)", x -> x.can(3), 2);
        still("rows(7, 0)", x -> x.rows(7, 0), 2);
        still("row(7, 0, 0)", x -> x.row(7, 0, 0), 2);
        still("rowAt(7, 0, 1, 0)", x -> x.rowAt(7, 0, 1, 0), 3);
        still("often(7, 0, 3, 0)", x -> x.often(7, 0, 3, 0), 1);
        still("pinned(7, 0)", x -> x.pinned(7, 0), 0);
        still("fewest(7)", x -> x.fewest(7), 0);
        still("kinds(7, 0)", x -> x.kinds(7, 0), 1);
        still("rounds(7)", x -> x.rounds(7), 6);
        still("threes(7)", x -> x.threes(7), 0);
        still("ways(4)", x -> x.ways(4), 1);
        still("fill(4, 3)", x -> x.fill(4, 3), 1);
        still("forced(4)", x -> x.forced(4), 4);
        still("stay(7)", x -> x.stay(7), 3);
        still("likely(7, true)", x -> x.likely(7, true), 12);
        still("most(6, false)", x -> x.most(6, false), 7);
        still("game(3, 1)", x -> x.game(3, 1), 1);
        still("play(3, 1)", x -> x.play(3, 1), 100);
        still("whose()", x -> x.whose(), 1);
        still("eldest()", x -> x.eldest(), 1);
        still("widest()", x -> x.widest(), 2);
        still("mirror()", x -> x.mirror() ? 1 : 0, 0);
        still("crossed()", x -> x.crossed(), 0);
        still("nested()", x -> x.nested(), 0);
        still("spread()", x -> x.spread(), 7);
        still("room()", x -> x.room(), 2);
        still("ledger(0)", x -> x.ledger(0), 2);
        Procession x = new Procession();
        due("rows(1, 1): number 1 is bit 0", x.rows(1, 1), 1);
        due("rows(128, 8): number 8 is bit 7", x.rows(128, 8), 1);
        due("rows(255, 0)", x.rows(255, 0), 300);
        due("rows(256, 0)", x.rows(256, 0), NONE);
        due("rows(-1, 0)", x.rows(-1, 0), NONE);
        x = Edge.ruledBy("between walk+1;");
        due("rows(1, 1) by one between", x.rows(1, 1), 1);
        x.join(1, 0);
        due("rows(1, 1) by two between", x.rows(1, 1), 0);
        due("rows(1, 2) by two between", x.rows(1, 2), 1);
        x.undo();
        due("rows(1, 1) by one between again", x.rows(1, 1), 1);
        x.by(NONE);
        due("rows(2, 2) by the number", x.rows(2, 2), 1);
    }

    /** What was asked ahead of it makes no difference to what is answered. */
    private static void askedInAnyOrder() {
        Edge.Call[] asks = {x -> x.rows(7, 1), x -> x.rows(31, 0), x -> x.rows(31, 1), x -> x.rowAt(7, 1, 2, 3),
            x -> x.often(7, 1, 3, 2), x -> x.pinned(7, 1), x -> x.pinned(31, 1), x -> x.fewest(31), x -> x.fewest(7),
            x -> x.fewest(3), x -> x.kinds(7, 1), x -> x.rounds(15), x -> x.rounds(7), x -> x.threes(7), x -> x.ways(12),
            x -> x.fill(12, 4), x -> x.forced(12), x -> x.stay(31), x -> x.stay(15), x -> x.likely(15, true),
            x -> x.most(7, false), x -> x.most(10, false), x -> x.game(5, 3), x -> x.game(7, 7), x -> x.game(8, 12),
            x -> x.game(10, 31), x -> x.play(7, 7), x -> x.play(10, 31), x -> x.game(6, 7), x -> x.game(4, 3)};
        for (String law : new String[] {"", "between 0;", "between number/2;"}) {
            long[] fresh = new long[asks.length];
            for (int i = 0; i < asks.length; i++) {
                fresh[i] = asks[i].of(Edge.ruledBy(law));
            }
            for (int step : new int[] {1, 7, 11, 13, 29}) {
                Procession x = Edge.ruledBy(law);
                for (int i = 0; i < 3 * asks.length; i++) {
                    int which = i * step % asks.length;
                    due("ask " + which + " by '" + law + "', by steps of " + step, asks[which].of(x), fresh[which]);
                }
            }
        }
    }

    private static void betweenAsNow() {
        Procession x = new Procession();
        Edge.read(x, "between 0;");
        Edge.read(x, "between walk+number-1;tires 0;");
        for (int i = 0; i < 3; i++) {
            x.by(NONE);
            due("rows(7, 0) by the number", x.rows(7, 0), 2);
            due("fewest(31)", x.fewest(31), 1);
            due("rounds(15)", x.rounds(15), 16);
            due("rounds(255)", x.rounds(255), 6656);
            due("ways(15)", x.ways(15), 2);
            due("game(5, 3)", x.game(5, 3), 1);
            due("most(4, false)", x.most(4, false), 1);
            x.by(0);
            due("rows(7, 0) by 0", x.rows(7, 0), 6);
            due("fewest(31)", x.fewest(31), 0);
            due("rounds(15)", x.rounds(15), 48);
            due("rounds(255)", x.rounds(255), 80640);
            due("ways(15)", x.ways(15), 24);
            due("game(5, 3)", x.game(5, 3), 0);
            due("most(4, false)", x.most(4, false), 3);
        }
        x.by(1);
        due("rows(7, 0) by number-1", x.rows(7, 0), 0);
        due("rows(6, 1) by number-1", x.rows(6, 1), 2);
        x.join(1, 0);
        due("rows(7, 0) by number, as 1 walks", x.rows(7, 0), 2);
        x.leave(1);
        due("rows(7, 0) by number-1 again", x.rows(7, 0), 0);
    }

    private static void foretold() {
        Edge.told(0, "FORETOLD behind n DAYS (1 .. 60; those that can pass), nothing else being done.");
        Procession x = Edge.ruledBy("tires if day>58 then 10 else 0 end;");
        x.join(1, 0);
        due("foretold(0)", x.foretold(0), NONE);
        due("foretold(1)", x.foretold(1), 1);
        due("foretold(59)", x.foretold(59), 1);
        due("foretold(60)", x.foretold(60), 0);
        due("foretold(61)", x.foretold(61), NONE);
        due("is(3)", x.is(3), 1);
        x = Edge.lastDay("tires if day=9998 then 0 else 10 end;");
        x.join(1, 0);
        due("foretold(1) at 9999", x.foretold(1), 1);
        due("foretold(60) at 9999", x.foretold(60), 1);
        x.undo();
        x.undo();
        x.join(2, 0);
        due("foretold(60) at 9998: one day, on which none tires", x.foretold(60), 2);
        x.undo();
        x.undo();
        x.join(3, 0);
        due("foretold(1) at 9997", x.foretold(1), 0);
        due("is(0)", x.is(0), 9997);
        // a DAY of one's own comes to the same
        x = new Procession();
        x.length(16);
        x.join(1, 0);
        x.join(3, 1);
        x.join(6, 6);
        for (int n = 1; n <= 60; n++) {
            int told = x.foretold(n);
            x.image();
            x.day(n);
            due("day(" + n + ")", x.is(3), told);
            x.back();
        }
    }

    private static void canJoin() {
        Edge.told(0, "CAN JOIN: first places at which a number could join now (it stands: none).");
        Procession x = new Procession();
        due("can(1): the second is at 7 at most", x.can(1), 63);
        due("can(6)", x.can(6), 1);
        due("can(7)", x.can(7), 0);
        x.length(1);
        due("can(1) of one place", x.can(1), 0);
        x = Edge.busy();
        due("can(2): it stands", x.can(2), 0);
        due("can(3)", x.can(3), 2);
        due("can(4): from 2 to 7", x.can(4), 4);
        due("can(5): from 1 to 7", x.can(5), 2);
        due("can(6): 0 is taken", x.can(6), 0);
        x = Edge.ruledBy("between 0;");
        x.length(16);
        due("can(8) of sixteen", x.can(8), 32767);
        x = Edge.ruledBy("between 14;");
        due("can(8) by 14", x.can(8), 0);
        x.length(16);
        due("can(8) by 14 of sixteen", x.can(8), 1);
    }

    private static void rows() {
        Edge.told(0, "ROWS of a set with so many gaps (0 .. 16): a row of twice as many places as there are numbers in the "
                + "set and the gaps (16 at most), in which all of it stand, each with between between its two, others free: "
                + "how many (of no number one, all free).");
        Procession x = new Procession();
        due("rows(0, 0)", x.rows(0, 0), 1);
        due("rows(0, 16)", x.rows(0, 16), 1);
        due("rows(0, 17)", x.rows(0, 17), NONE);
        due("rows(0, -1)", x.rows(0, -1), NONE);
        due("rows(1, 14) of sixteen places", x.rows(1, 14), 14);
        due("rows(1, 15) of seventeen", x.rows(1, 15), NONE);
        due("rows(1, 16)", x.rows(1, 16), NONE);
        due("rows(255, 0) of sixteen", x.rows(255, 0), 300);
        due("rows(255, 1) of seventeen", x.rows(255, 1), NONE);
        due("rows(127, 2) of sixteen", x.rows(127, 2) > 0, true);
        due("rows(127, 3) of seventeen", x.rows(127, 3), NONE);
        due("rows(1, 0): two places", x.rows(1, 0), 0);
        due("rows(1, 1)", x.rows(1, 1), 1);
        due("rows(128, 7): nine places", x.rows(128, 7), 0);
        due("rows(128, 8)", x.rows(128, 8), 1);
        due("rows(3, 0)", x.rows(3, 0), 0);
        due("rows(3, 1)", x.rows(3, 1), 2);
        x = Edge.ruledBy("between 14;");
        due("rows(1, 13) by 14", x.rows(1, 13), 0);
        due("rows(1, 14) by 14", x.rows(1, 14), 1);
        due("rows(3, 12) by 14", x.rows(3, 12), 0);
        x = Edge.ruledBy("between 0;");
        due("rows(255, 0) by 0", x.rows(255, 0), 40320);
        due("rows(127, 2) by 0", x.rows(127, 2), 181440);
        due("rows(31, 6) by 0: 11 things of which 5 are told apart", x.rows(31, 6), 55440);
        x.length(1);
        due("LENGTH isn't asked", x.rows(255, 0), 40320);
    }

    private static void row(Procession x, int set, int gaps, int i, String want) {
        for (int place = 0; place < want.length(); place++) {
            due("rowAt(" + set + ", " + gaps + ", " + i + ", " + place + ")", x.rowAt(set, gaps, i, place),
                    want.charAt(place) - '0');
            if (i == 0) {
                due("row(" + set + ", " + gaps + ", " + place + ")", x.row(set, gaps, place), want.charAt(place) - '0');
            }
        }
        due("rowAt beyond the places", x.rowAt(set, gaps, i, want.length()), NONE);
        due("rowAt ahead of them", x.rowAt(set, gaps, i, -1), NONE);
    }

    private static void rowsInOrder() {
        Edge.told(0, "THE LOWEST ROW: of these by who stands at place 0 (nobody is lowest), then at 1, ..; THE i-th ROW "
                + "likewise (from 0 on);");
        Procession x = new Procession();
        row(x, 0, 16, 0, "0000000000000000");
        due("rowAt(0, 16, 1, 0)", x.rowAt(0, 16, 1, 0), NONE);
        due("row(0, 0, 0): no place", x.row(0, 0, 0), NONE);
        row(x, 1, 1, 0, "101");
        row(x, 1, 2, 0, "0101");
        row(x, 1, 2, 1, "1010");
        due("rowAt(1, 2, 2, 0)", x.rowAt(1, 2, 2, 0), NONE);
        due("rowAt(1, 2, -1, 0)", x.rowAt(1, 2, -1, 0), NONE);
        row(x, 3, 1, 0, "12102");
        row(x, 3, 1, 1, "20121");
        due("rowAt(3, 1, 2, 0)", x.rowAt(3, 1, 2, 0), NONE);
        row(x, 7, 0, 0, "231213");
        row(x, 7, 0, 1, "312132");
        row(x, 15, 0, 0, "23421314");
        row(x, 15, 0, 1, "41312432");
        row(x, 5, 1, 0, "31013");
        row(x, 10, 2, 0, "420024");
        row(x, 6, 2, 0, "230203");
        row(x, 6, 2, 1, "302032");
        row(x, 128, 8, 0, "8000000008");
        x = Edge.ruledBy("between 0;");
        String[] all = {"01122", "02211", "11022", "11220", "22011", "22110"};
        for (int i = 0; i < all.length; i++) {
            row(x, 3, 1, i, all[i]);
        }
        due("rowAt(3, 1, 6, 0)", x.rowAt(3, 1, 6, 0), NONE);
        row(x, 127, 2, 0, "0011223344556677");
        row(x, 127, 2, 181439, "7766554433221100");
        due("rowAt(127, 2, 181440, 0)", x.rowAt(127, 2, 181440, 0), NONE);
        row(x, 255, 0, 40319, "8877665544332211");
        due("rowAt(255, 0, 40320, 0)", x.rowAt(255, 0, 40320, 0), NONE);
    }

    private static void often() {
        Edge.told(0, "OFTEN: in how many a number stands at a place;");
        Procession x = Edge.ruledBy("between 0;");
        int[] one = {2, 3, 2, 3, 2};
        for (int place = 0; place < 5; place++) {
            due("often(3, 1, 1, " + place + ")", x.often(3, 1, 1, place), one[place]);
            due("often(3, 1, 2, " + place + ")", x.often(3, 1, 2, place), one[place]);
        }
        x = new Procession();
        due("often(1, 1, 1, 1): never in the middle", x.often(1, 1, 1, 1), 0);
        due("often(1, 1, 1, 0)", x.often(1, 1, 1, 0), 1);
        due("often(1, 1, 1, 2)", x.often(1, 1, 1, 2), 1);
        due("often(1, 14, 1, 0)", x.often(1, 14, 1, 0), 1);
        due("often(1, 14, 1, 1)", x.often(1, 14, 1, 1), 1);
        due("often(1, 14, 1, 2): by its first and by its second", x.often(1, 14, 1, 2), 2);
        due("often(1, 14, 1, 15)", x.often(1, 14, 1, 15), 1);
        due("often(3, 0, 1, 0): no row", x.often(3, 0, 1, 0), 0);
        due("often(128, 8, 8, 9)", x.often(128, 8, 8, 9), 1);
    }

    private static void pinned() {
        Edge.told(0, "PINNED: numbers of the set that have the same places in all; no row.");
        Procession x = new Procession();
        due("pinned(3, 0): no row", x.pinned(3, 0), NONE);
        due("pinned(1, 0): no row", x.pinned(1, 0), NONE);
        due("pinned(0, 0): of no number", x.pinned(0, 0), 0);
        due("pinned(0, 16)", x.pinned(0, 16), 0);
        due("pinned(1, 1): one row", x.pinned(1, 1), 1);
        due("pinned(1, 2): two rows", x.pinned(1, 2), 0);
        due("pinned(17, 3): 5 alone, 1 at any of three places", x.pinned(17, 3), 16);
        due("pinned(7, 0)", x.pinned(7, 0), 0);
        due("pinned(128, 8)", x.pinned(128, 8), 128);
        x = Edge.ruledBy("between number*2-2;");
        due("pinned(255, 0): all in one another", x.pinned(255, 0), 255);
    }

    private static void fewest() {
        Edge.told(0, "FEWEST GAPS by which there is a row (16 places at most); no row.");
        Procession x = new Procession();
        due("fewest(0)", x.fewest(0), 0);
        due("fewest(1)", x.fewest(1), 1);
        due("fewest(3)", x.fewest(3), 1);
        due("fewest(7)", x.fewest(7), 0);
        due("fewest(128)", x.fewest(128), 8);
        due("fewest(31)", x.fewest(31), 1);
        due("fewest(63)", x.fewest(63), 1);
        due("fewest(62)", x.fewest(62), 0);
        due("fewest(248)", x.fewest(248), 2);
        due("fewest(240)", x.fewest(240), 4);
        due("fewest(255)", x.fewest(255), 0);
        x = Edge.ruledBy("between 14;");
        due("fewest(1) by 14: sixteen places", x.fewest(1), 14);
        due("fewest(3) by 14", x.fewest(3), NONE);
        x = Edge.ruledBy("between 13;");
        due("fewest(1) by 13", x.fewest(1), 13);
        due("fewest(3) by 13: sixteen places", x.fewest(3), 12);
        due("fewest(7) by 13", x.fewest(7), NONE);
        due("fewest(0) by 13", x.fewest(0), 0);
        x.length(1);
        due("LENGTH isn't asked", x.fewest(3), 12);
    }

    private static void kinds() {
        Edge.told(0, "KINDS: ROWS, of two that are one another turned just one counted.");
        Procession x = new Procession();
        due("kinds(0, 0)", x.kinds(0, 0), 1);
        due("kinds(0, 16)", x.kinds(0, 16), 1);
        due("kinds(1, 0): no row", x.kinds(1, 0), 0);
        due("kinds(1, 1): one that is its own", x.kinds(1, 1), 1);
        due("kinds(1, 2): two of one kind", x.kinds(1, 2), 1);
        due("kinds(1, 3): three rows", x.kinds(1, 3), 2);
        due("kinds(3, 1): 12102 turned is 20121", x.kinds(3, 1), 1);
        due("kinds(5, 1): 31013 alone", x.kinds(5, 1), 1);
        due("kinds(255, 0)", x.kinds(255, 0), 150);
        x = Edge.ruledBy("between 0;");
        due("kinds(3, 0): 1122 turned is 2211", x.kinds(3, 0), 1);
        due("kinds(3, 1): six rows", x.kinds(3, 1), 3);
        due("kinds(1, 2): 0110 is its own", x.kinds(1, 2), 2);
        due("kinds(255, 0)", x.kinds(255, 0), 20160);
        x = Edge.ruledBy("between number*2-2;");
        due("kinds(255, 0): one that is its own", x.kinds(255, 0), 1);
    }

    private static void rounds() {
        Edge.told(0, "ROUNDS: twice as many places as numbers in a round, in which all of a set stand, between counted one "
                + "way around (as often as it goes; a number that would come to its own place can't): in how many ways places "
                + "are theirs (two opposite one another are so in one way; of no number one way; THREES, WAYS likewise).");
        Procession x = new Procession();
        due("rounds(0)", x.rounds(0), 1);
        due("threes(0)", x.threes(0), 1);
        due("ways(0)", x.ways(0), 1);
        due("rounds(1): one between of two places is its own", x.rounds(1), 0);
        due("rounds(2): the other of two places", x.rounds(2), 1);
        due("rounds(128): four times around and one on", x.rounds(128), 1);
        due("rounds(7)", x.rounds(7), 6);
        due("rounds(13): more than rows, of which there is none", x.rounds(13), 12);
        due("rounds(15)", x.rounds(15), 16);
        due("rounds(31)", x.rounds(31), 0);
        due("rounds(62)", x.rounds(62), 60);
        due("rounds(248)", x.rounds(248), 40);
        due("rounds(127)", x.rounds(127), 1120);
        due("rounds(255)", x.rounds(255), 6656);
        x = Edge.ruledBy("between 14;");
        due("rounds(1) by 14: seven times around and one on", x.rounds(1), 1);
        due("rounds(3) by 14: three places on, one back", x.rounds(3), 4);
        x = Edge.ruledBy("between 13;");
        due("rounds(1) by 13: its own", x.rounds(1), 0);
        due("rounds(3) by 13: opposite", x.rounds(3), 2);
        due("rounds(127) by 13: its own", x.rounds(127), 0);
        x = Edge.ruledBy("between 0;");
        due("rounds(3) by 0", x.rounds(3), 4);
        due("rounds(7) by 0: two ways of pairs, six of numbers", x.rounds(7), 12);
        due("rounds(255) by 0", x.rounds(255), 2 * 40320);
        x = Edge.ruledBy("between 1;");
        due("rounds(3) by 1: opposite", x.rounds(3), 2);
        x = Edge.ruledBy("between 7;");
        due("rounds(255) by 7: all opposite", x.rounds(255), 40320);
        due("rounds(15) by 7: their own", x.rounds(15), 0);
        x = Edge.ruledBy("between if number=1 then 3 else 1 end;");
        due("rounds(3): 1 would come to its own place", x.rounds(3), 0);
        due("rounds(2): 2 too", x.rounds(2), 0);
        x.length(1);
        due("rounds(6): LENGTH isn't asked", x.rounds(6), 2);
    }

    private static void threes() {
        Edge.told(0, "THREES: three of each number, three times as many places in a row (five numbers at most): between the "
                + "first and the second, the second and the third of each as many as between: how many rows.");
        Procession x = new Procession();
        due("threes(1): 1 needs five places", x.threes(1), 0);
        due("threes(31): five", x.threes(31), 0);
        due("threes(248): five", x.threes(248), 0);
        due("threes(63): six", x.threes(63), NONE);
        due("threes(252): six", x.threes(252), NONE);
        due("threes(255): eight", x.threes(255), NONE);
        x = Edge.ruledBy("between 0;");
        due("threes(1) by 0", x.threes(1), 1);
        due("threes(3) by 0", x.threes(3), 2);
        due("threes(31) by 0", x.threes(31), 120);
        due("threes(248) by 0", x.threes(248), 120);
        x = Edge.ruledBy("between 4;");
        due("threes(31) by 4: side by side, three times", x.threes(31), 120);
        due("threes(15) by 4: twelve places", x.threes(15), 0);
        x = Edge.ruledBy("between 5;");
        due("threes(31) by 5", x.threes(31), 0);
        x = Edge.ruledBy("between 6;");
        due("threes(31) by 6: fifteen places for one", x.threes(31), 0);
        x = Edge.ruledBy("between 14;");
        due("threes(31) by 14", x.threes(31), 0);
        x = Edge.ruledBy("between if number=1 then 0 else 1 end;");
        due("threes(7): 111 ahead or behind, 2 and 3 in one another", x.threes(7), 4);
    }

    private static void ways() {
        Edge.told(0, "WAYS: those that stand stay, the numbers of a set that don't stand join (LENGTH as it is): in how many "
                + "ways.");
        Procession x = new Procession();
        due("ways(1)", x.ways(1), 6);
        due("ways(32)", x.ways(32), 1);
        due("ways(64): eight places are too few", x.ways(64), 0);
        x.length(9);
        due("ways(64) of nine", x.ways(64), 1);
        x.length(2);
        due("ways(1) of two", x.ways(1), 0);
        due("ways(0) of two", x.ways(0), 1);
        x = Edge.busy();
        due("ways(0)", x.ways(0), 1);
        due("ways(3): all stand", x.ways(3), 1);
        due("ways(4): 3 at 1", x.ways(4), 1);
        due("ways(7): 3 at 1", x.ways(7), 1);
        due("ways(12): 4 at 2, 3 at 1", x.ways(12), 1);
        due("ways(24): 4 at 2 and 5 at 1 both want 7", x.ways(24), 0);
        x = Edge.ruledBy("between 0;");
        x.length(16);
        due("ways(255)", x.ways(255), 40320);
        for (int number = 1; number <= 8; number++) {
            x.join(number, 2 * number - 2);
        }
        due("ways(255) of a full row", x.ways(255), 1);
        x.leave(8);
        due("ways(255)", x.ways(255), 1);
        x.by(NONE);
        due("ways(128) by 8 between", x.ways(128), 0);
    }

    private static void lowestWay() {
        Edge.told(0, "THE LOWEST WAY: by the first place of the lowest of these, then of the next, ..: the first place (of "
                + "one that stands its own; of one that neither stands nor is of the set: others).");
        Procession x = new Procession();
        x.length(6);
        // 312132 and 231213: by number 1 it is the first, though 2 stands lower in the other
        due("fill(7, 1)", x.fill(7, 1), 1);
        due("fill(7, 2)", x.fill(7, 2), 2);
        due("fill(7, 3)", x.fill(7, 3), 0);
        due("fill(7, 4): neither", x.fill(7, 4), NONE);
        due("fill(0, 1): neither", x.fill(0, 1), NONE);
        due("fill(15, 1): no way", x.fill(15, 1), NONE);
        x = Edge.busy();
        due("fill(0, 2): its own", x.fill(0, 2), 0);
        due("fill(0, 1): its own", x.fill(0, 1), 4);
        due("fill(3, 1): its own", x.fill(3, 1), 4);
        due("fill(4, 1): its own", x.fill(4, 1), 4);
        due("fill(4, 3)", x.fill(4, 3), 1);
        due("fill(12, 4)", x.fill(12, 4), 2);
        due("fill(4, 4): neither", x.fill(4, 4), NONE);
        due("fill(24, 4): no way", x.fill(24, 4), NONE);
        due("fill(24, 1): no way", x.fill(24, 1), NONE);
        x = Edge.ruledBy("between 0;");
        for (int number = 1; number <= 4; number++) {
            due("fill(15, " + number + ")", x.fill(15, number), 2 * number - 2);
        }
        due("fill(240, 8)", x.fill(240, 8), 6);
    }

    private static void forced() {
        Edge.told(0, "FORCED: numbers of the set that don't stand and have the same first place by all WAYS.");
        Procession x = new Procession();
        due("forced(0)", x.forced(0), 0);
        due("forced(16): 5 at 0 or 1", x.forced(16), 0);
        due("forced(32): 6 at 0", x.forced(32), 32);
        due("forced(33): 6 alone", x.forced(33), 32);
        due("forced(64): no way", x.forced(64), NONE);
        due("forced(96): no way", x.forced(96), NONE);
        x = Edge.busy();
        due("forced(3): all stand", x.forced(3), 0);
        due("forced(4)", x.forced(4), 4);
        due("forced(7): those that stand aside", x.forced(7), 4);
        due("forced(12)", x.forced(12), 12);
        due("forced(24): no way", x.forced(24), NONE);
        x = Edge.ruledBy("between number*2-2;");
        x.length(16);
        due("forced(255)", x.forced(255), 255);
        x.join(1, 7);
        due("forced(255), 1 standing", x.forced(255), 254);
    }

    private static void whoStays() {
        Edge.told(0, "WHO STAYS: just the numbers of a set are to stand (LENGTH as it is), those that stand aside leave; of "
                + "those of it that stand as many as can be stay where they are, so that all others of it (those that don't "
                + "stay, too) find place: of like ones the lowest set; no way.");
        Procession x = new Procession();
        due("stay(0) of nobody", x.stay(0), 0);
        due("stay(7) of nobody", x.stay(7), 0);
        due("stay(64): eight places are too few", x.stay(64), NONE);
        x = Edge.busy();
        due("stay(0): all leave", x.stay(0), 0);
        due("stay(3)", x.stay(3), 3);
        due("stay(1)", x.stay(1), 1);
        due("stay(7): 3 at 1", x.stay(7), 3);
        due("stay(32): 6 wants 0 and 7, 2 leaves", x.stay(32), 0);
        due("stay(33): 1 stays", x.stay(33), 1);
        due("stay(34): 2 can't stay, 6 being at 0", x.stay(34), 0);
        due("stay(64): no way", x.stay(64), NONE);
        // .11.22. : 3 finds place, if one of them goes
        x = Edge.ruledBy("between 0;");
        x.length(7);
        x.join(1, 1);
        x.join(2, 4);
        due("stay(7): 1 or 2, the lowest set", x.stay(7), 1);
        due("stay(6)", x.stay(6), 2);
        due("stay(3)", x.stay(3), 3);
        due("stay(15): no way", x.stay(15), NONE);
        // .11.2233 : 2 and 3 stay, as 1 leaves place 0 to nobody
        x.length(8);
        x.join(3, 6);
        due("stay(15): as many as can be", x.stay(15), 6);
        due("stay(14)", x.stay(14), 6);
        due("stay(7)", x.stay(7), 7);
    }

    private static void likely() {
        Edge.told(0, "LIKELY: all of a set, each at any first place of a row of twice as many places (as many as LENGTH of "
                + "that row less between less 1; none: 0 by 1), alike and apart from one another: that no two want one "
                + "place, in lowest terms.");
        Procession x = new Procession();
        odds(x, 0, 1, 1);
        odds(x, 1, 0, 1);
        odds(x, 128, 0, 1);
        odds(x, 3, 0, 1);
        odds(x, 7, 1, 12);
        // 300 of 14 * 13 * 12 * 11 * 10 * 9 * 8 * 7
        odds(x, 255, 5, 2018016);
        x = Edge.ruledBy("between 0;");
        odds(x, 1, 1, 1);
        odds(x, 3, 2, 9);
        odds(x, 255, 896, 56953125);
        // less than none each, by which their product is above 0
        x = Edge.ruledBy("between 14;");
        odds(x, 1, 0, 1);
        odds(x, 3, 0, 1);
        odds(x, 255, 0, 1);
        x = Edge.ruledBy("between number*2-2;");
        odds(x, 255, 1, 15L * 13 * 11 * 9 * 7 * 5 * 3);
        x = Edge.ruledBy("between 2*number+1;");
        odds(x, 2, 0, 1);
        odds(x, 6, 0, 1);
    }

    private static void odds(Procession x, int set, long upper, long lower) {
        due("likely(" + set + ", false)", x.likely(set, false), upper);
        due("likely(" + set + ", true)", x.likely(set, true), lower);
    }

    private static void most() {
        Edge.told(0, "MOST: of numbers 1 .. 8 as many as can be that find place in an empty row of so many places; of like "
                + "ones the lowest set.");
        Procession x = new Procession();
        int[] sets = {0, 0, 1, 1, 3, 7};
        for (int places = 1; places <= 6; places++) {
            due("most(" + places + ", false)", x.most(places, false), sets[places - 1]);
            due("most(" + places + ", true)", x.most(places, true), Integer.bitCount(sets[places - 1]));
        }
        due("most(16, false)", x.most(16, false), 255);
        due("most(16, true)", x.most(16, true), 8);
        x = Edge.ruledBy("between 14;");
        due("most(15, true) by 14", x.most(15, true), 0);
        due("most(16, false) by 14: the lowest", x.most(16, false), 1);
        x = Edge.ruledBy("between 0;");
        due("most(15, false) by 0", x.most(15, false), 127);
        due("most(16, false) by 0", x.most(16, false), 255);
        x.join(1, 0);
        due("most(2, false): an empty row", x.most(2, false), 1);
        x = Edge.ruledBy("between 8-number;");
        due("most(2, false): 8 alone", x.most(2, false), 128);
        due("most(3, false): 7 or 8", x.most(3, false), 64);
        due("most(4, false): 6 8 8 6", x.most(4, false), 160);
    }

    private static void games() {
        Edge.told(0, "A GAME: an empty row of so many places, a set; by turns one lets a number of the set that doesn't stand "
                + "join; who can't loses: whether the one who begins wins;");
        Procession x = new Procession();
        due("game(1, 31): none can join", x.game(1, 31), 0);
        due("game(10, 0): none is there", x.game(10, 0), 0);
        due("game(2, 1)", x.game(2, 1), 0);
        due("game(3, 1)", x.game(3, 1), 1);
        due("game(10, 128): 8 has just room", x.game(10, 128), 1);
        due("game(9, 128)", x.game(9, 128), 0);
        due("game(5, 3)", x.game(5, 3), 1);
        x = Edge.ruledBy("between 0;");
        due("game(2, 31): one joins, no room is left", x.game(2, 31), 1);
        due("game(4, 3): in the middle", x.game(4, 3), 1);
        due("game(5, 3): the other always can", x.game(5, 3), 0);
        due("game(10, 3): the other always can", x.game(10, 3), 0);
        due("game(10, 7): three join", x.game(10, 7), 1);
        x.join(1, 0);
        due("game(2, 1): an empty row, though 1 stands", x.game(2, 1), 1);
    }

    private static void plays() {
        Edge.told(0, "A PLAY by which it wins: the lowest number, then the lowest first place.");
        Procession x = new Procession();
        due("play(10, 128)", x.play(10, 128), 800);
        due("play(3, 5): 3 has no room", x.play(3, 5), 100);
        due("play(3, 4)", x.play(3, 4), NONE);
        due("play(10, 0)", x.play(10, 0), NONE);
        due("play(5, 3): 1 at 0 would leave 1 and 4 for 2", x.play(5, 3), 101);
        x = Edge.ruledBy("between 0;");
        due("play(2, 31)", x.play(2, 31), 100);
        due("play(2, 248)", x.play(2, 248), 400);
        due("play(4, 3)", x.play(4, 3), 101);
        due("play(4, 192)", x.play(4, 192), 701);
        due("play(5, 3): none wins", x.play(5, 3), NONE);
        x = Edge.ruledBy("between 14;");
        due("play(10, 31): none can join", x.play(10, 31), NONE);
    }

    private static void whoseLaw() {
        Edge.told(0, "WHOSE LAW (told: SAID, 8 at most: a number, between 0 .. 14): TEXTS (bits) by whose between all are so "
                + "(as now).");
        Procession x = new Procession();
        x.said(1, 1);
        due("whose() without texts", x.whose(), 0);
        x.said(NONE, 0);
        Edge.read(x, "between number;");
        Edge.read(x, "between 14;");
        Edge.read(x, "between 0;");
        Edge.read(x, "between walk;");
        due("whose() of nothing said: all", x.whose(), 15);
        x.said(1, 0);
        due("whose() of 0: 0 and walk", x.whose(), 4 | 8);
        x.join(5, 0);
        due("whose() as now", x.whose(), 4);
        x.said(1, 1);
        due("whose(): both can't be", x.whose(), 0);
        x.said(NONE, 0);
        x.said(1, 1);
        due("whose()", x.whose(), 1 | 8);
        x.said(2, 2);
        due("whose()", x.whose(), 1);
        x.said(NONE, 0);
        x.said(8, 14);
        due("whose() of 14", x.whose(), 2);
        x.by(1);
        due("THE TEXT isn't asked", x.whose(), 2);
        for (int i = 2; i <= 8; i++) {
            due("said " + i, x.said(8, 14), i);
        }
        due("a ninth", x.said(8, 0), -2);
        due("it doesn't count", x.whose(), 2);
        x = new Procession();
        Edge.read(x, "between 99;");
        Edge.read(x, "between 0-99;");
        Edge.read(x, "tires 3;");
        x.said(7, 14);
        due("99 is 14", x.whose(), 1);
        x.said(NONE, 0);
        x.said(7, 0);
        due("-99 is 0", x.whose(), 2);
        x.said(NONE, 0);
        x.said(7, 7);
        due("without: the number", x.whose(), 4);
    }

    private static void eldestAndWidest() {
        Edge.told(0, "ELDEST: who stands longest (SINCE); of like ones the lowest; none.");
        Procession x = Edge.ruledBy("tires 0;");
        due("eldest() of nobody", x.eldest(), NONE);
        x.join(2, 0);
        due("eldest() of one", x.eldest(), 2);
        x.join(1, 4);
        due("of like ones the lowest", x.eldest(), 1);
        x.undo();
        x.day(1);
        x.join(1, 4);
        due("2 by a day", x.eldest(), 2);
        x.day(60);
        due("2 yet", x.eldest(), 2);
        x.day(38);
        due("99 and 98", x.eldest(), 2);
        x.day(1);
        due("99 and 99", x.eldest(), 1);
        x.leave(1);
        x.leave(2);
        due("eldest() of nobody again", x.eldest(), NONE);
        x.length(10);
        x.join(8, 0);
        x.day(1);
        x.join(1, 1);
        due("eldest(): 8", x.eldest(), 8);
        due("widest(): 8", x.widest(), 8);
        Edge.told(0, "WIDEST: whose two places are farthest apart; likewise.");
        x = Edge.ruledBy("between if number=3 then 2 else 0 end;");
        due("widest() of nobody", x.widest(), NONE);
        x.join(2, 0);
        due("widest() of one", x.widest(), 2);
        x.join(1, 2);
        due("of like ones the lowest", x.widest(), 1);
        x.join(3, 4);
        due("farthest apart", x.widest(), 3);
        x.by(NONE);
        due("by its places, not by between", x.widest(), 3);
    }

    private static void mirrors() {
        Edge.told(0, "A MIRROR: TURNED all would be as it is (nobody stands: so).");
        Procession x = new Procession();
        due("mirror() of nobody", x.mirror(), true);
        x.join(6, 0);
        due("6......6", x.mirror(), true);
        x.join(4, 1);
        due("64....46", x.mirror(), true);
        x.join(1, 2);
        due("641.1.46", x.mirror(), false);
        x.leave(1);
        x.length(9);
        due("64....46.", x.mirror(), false);
        x = new Procession();
        x.length(11);
        x.join(8, 0);
        due("8........8.", x.mirror(), false);
        x.length(10);
        due("8........8", x.mirror(), true);
        x = Edge.ruledBy("between 0;");
        x.length(2);
        x.join(3, 0);
        due("33", x.mirror(), true);
        x.length(4);
        x.join(4, 2);
        due("3344", x.mirror(), false);
    }

    private static void crossedAndNested() {
        Edge.told(0, "CROSSED: how many two numbers that stand cross: just one place of the one is between the two of the "
                + "other.");
        Procession x = new Procession();
        due("crossed() of nobody", x.crossed(), 0);
        x.join(1, 0);
        due("crossed() of one", x.crossed(), 0);
        x.join(2, 1);
        due("121.2", x.crossed(), 1);
        x.join(3, 3);
        due("12132..3", x.crossed(), 2);
        x = Edge.ruledBy("between 7;");
        x.length(16);
        for (int number = 1; number <= 8; number++) {
            x.join(number, number - 1);
        }
        due("all eight cross", x.crossed(), 28);
        for (int number = 2; number <= 7; number++) {
            x.leave(number);
        }
        due("1 and 8 cross", x.crossed(), 1);
        due("none is nested", x.nested(), 0);
        Edge.told(0, "NESTED: how many two of which both places of the one are between the two of the other.");
        x = new Procession();
        due("nested() of nobody", x.nested(), 0);
        x.join(3, 0);
        due("nested() of one", x.nested(), 0);
        x.join(1, 1);
        due("31.13", x.nested(), 1);
        x = Edge.ruledBy("between 16-2*number;");
        x.length(16);
        for (int number = 1; number <= 8; number++) {
            x.join(number, number - 1);
        }
        due("all eight in one another", x.nested(), 28);
        due("none crosses", x.crossed(), 0);
        due("it is a mirror", x.mirror(), true);
        x = Edge.ruledBy("between 0;");
        x.join(1, 0);
        x.join(2, 2);
        due("1122: neither", x.crossed() + x.nested(), 0);
    }

    private static void spreadAndRoom() {
        Edge.told(0, "SPREAD: how many places there are from the first that is taken to the last (0: nobody).");
        Procession x = new Procession();
        due("spread() of nobody", x.spread(), 0);
        x.join(1, 3);
        due("...1.1..", x.spread(), 3);
        x.join(2, 4);
        due("...121.2", x.spread(), 5);
        x.leave(1);
        due("....2..2", x.spread(), 4);
        x.leave(2);
        x.join(6, 0);
        due("6......6", x.spread(), 8);
        x = Edge.ruledBy("between 14;");
        x.length(16);
        x.join(1, 0);
        due("all sixteen", x.spread(), 16);
        Edge.told(0, "ROOM: the most places free one behind the other.");
        due("room() between", x.room(), 14);
        x = new Procession();
        due("room() of nobody", x.room(), 8);
        x.join(1, 3);
        due("...1.1..: at the beginning", x.room(), 3);
        x.shift(-1);
        due("..1.1...: at the end", x.room(), 3);
        x.length(5);
        due("..1.1", x.room(), 2);
        x.leave(1);
        x.length(1);
        due("of one place", x.room(), 1);
        x.length(16);
        due("of sixteen", x.room(), 16);
        x = Edge.ruledBy("between 0;");
        x.length(2);
        x.join(1, 0);
        due("of a full row", x.room(), 0);
        due("spread() of a full row", x.spread(), 2);
    }

    private static void byTheBook() {
        Edge.told(0, "BY THE BOOK: how many lines there are of a kind.");
        Procession x = Edge.ruledBy("tires 10;");
        due("ledger(0) of none", x.ledger(0), 0);
        due("ledger(1) of none", x.ledger(1), 0);
        due("ledger(2) of none", x.ledger(2), 0);
        x.join(1, 0);
        x.join(2, 1);
        x.join(3, 3);
        x.leave(2);
        x.day(1);
        due("ledger(0)", x.ledger(0), 3);
        due("ledger(1)", x.ledger(1), 1);
        due("ledger(2)", x.ledger(2), 2);
        for (int i = 0; i < 9; i++) {
            x.join(1, 0);
            x.leave(1);
        }
        due("ledger(0) of 24", x.ledger(0), 12);
        x.join(1, 0);
        due("ledger(0) of 25", x.ledger(0), 13);
        x.join(2, 1);
        due("ledger(0) of 26, the eldest being gone", x.ledger(0), 13);
        x.undo();
        x.undo();
        due("ledger(0)", x.ledger(0), 12);
        Edge.told(0, "The constants: `NONE = -1`: None.");
        due("NONE", Procession.NONE, -1);
    }
}
