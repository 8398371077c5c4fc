/** Promises 1 to 6: each sentence that names an edge, by itself. */
public final class YardEdgesTest {
    private static void due(String call, long got, long want) {
        Due.due(call, got, want);
    }

    // ---- promise 1: a new object

    private static void noPlayers() {
        ConkerBouts x = new ConkerBouts();
        for (int what = 0; what <= 10; what++) due("count(" + what + ")", x.count(what), 0);
        for (int what = 0; what < 3; what++) due("status(" + what + ")", x.status(what), 0);
        due("player(0, 1)", x.player(0, 1), 0);
    }

    private static void nothingToAskOf() {
        ConkerBouts x = new ConkerBouts();
        Edge.bad(x, "nut(0, 0, 0, 1)", () -> x.nut(0, 0, 0, 1));
        Edge.bad(x, "strikes(0, 1)", () -> x.strikes(0, 1));
        Edge.bad(x, "hands(0, 0)", () -> x.hands(0, 0));
        Edge.bad(x, "of(0, 0)", () -> x.of(0, 0));
        Edge.bad(x, "who(0, 0)", () -> x.who(0, 0));
        Edge.bad(x, "crack(0, 1, 0)", () -> x.crack(0, 1, 0));
        Edge.bad(x, "lasts(0, 1, 0)", () -> x.lasts(0, 1, 0));
        Edge.bad(x, "bout(0, 1, 0)", () -> x.bout(0, 1, 0));
        Edge.no(x, "rank(0)", () -> x.rank(0));
        Edge.badAs(-10, x, "order(0, -2)", () -> x.order(0, -2));
        Edge.bad(x, "firm(0, 1)", () -> x.firm(0, 1));
        Edge.bad(x, "fit(0, 0)", () -> x.fit(0, 0));
        Edge.bad(x, "seen(0, 0, 0, 0, 0)", () -> x.seen(0, 0, 0, 0, 0));
        Edge.bad(x, "hards(0)", () -> x.hards(0));
        Edge.bad(x, "tell(0)", () -> x.tell(0));
        Edge.bad(x, "note(0, 0, 0, 0, 0, 0)", () -> x.note(0, 0, 0, 0, 0, 0));
        Edge.bad(x, "mark(0, 1, 1, 0, 0)", () -> x.mark(0, 1, 1, 0, 0));
        Edge.bad(x, "is(0)", () -> x.is(0));
        Edge.bad(x, "look(0)", () -> x.look(0));
        Edge.bad(x, "kinds(0)", () -> x.kinds(0));
        Edge.bad(x, "ask(0)", () -> x.ask(0));
        Edge.badAs(-10, x, "pair(0, 1, -1)", () -> x.pair(0, 1, -1));
        Edge.bad(x, "odds(0, 1, 1, 1)", () -> x.odds(0, 1, 1, 1));
        Edge.no(x, "undo()", x::undo);
        Edge.no(x, "from(0)", () -> x.from(0));
        Edge.no(x, "from(1)", () -> x.from(1));
    }

    private static void whatNeedsNothing() {
        ConkerBouts x = new ConkerBouts();
        Edge.stays(x, "clear()", x::clear, 0);
        Edge.stays(x, "read()", x::read, -10);
        for (int what = 0; what < 3; what++) {
            int one = what;
            Edge.stays(x, "forget(" + one + ")", () -> x.forget(one), 0);
        }
        Edge.stays(x, "days(0, 60)", () -> x.days(0, 60), 0);
        Edge.stays(x, "image(0)", () -> x.image(0), 1);
        Edge.stays(x, "from(0)", () -> x.from(0), 1);
        Edge.stays(x, "yard(0)", () -> x.yard(0), 0);
        due("waits(60)", x.waits(60), 60);
    }

    private static void fractionAtFirst() {
        ConkerBouts x = new ConkerBouts();
        due("part(0)", x.part(0), 0);
        due("part(1)", x.part(1), 1);
    }

    private static void numberAtFirst() {
        ConkerBouts x = new ConkerBouts();
        due("count(2)", x.count(2), 0);
        due("waits(1)", x.waits(1), 1);
        due("undo()", x.undo(), 0);
    }

    private static void objectsApart() {
        ConkerBouts x = Yards.six(), y = new ConkerBouts();
        x.strikes(3, 0);
        x.image(0);
        x.type('y');
        due("count(1) of another object", y.count(1), 0);
        due("from(0) of another object", y.from(0), -3);
        due("clear() of another object", y.clear(), 0);
        due("status(1) of the first", x.status(1), 0);
    }

    // ---- promise 2: yard

    private static void numberOfAYard() {
        ConkerBouts x = Yards.two(7, 0, 0);
        for (int t : new int[] {-1, 100, Edge.LOW, Edge.HIGH}) Edge.bad(x, "yard(" + t + ")", () -> x.yard(t));
        due("count(2)", x.count(2), 7);
        due("yard(99)", x.yard(99), 2);
        due("count(2)", x.count(2), 99);
        due("waits(1)", x.waits(1), 100);
        due("yard(0)", x.yard(0), 0);
        due("count(2)", x.count(2), 0);
    }

    private static void allElseAsAtFirst() {
        ConkerBouts x = Yards.six();
        x.strikes(3, 0);
        x.seen(1, 0, 0, 0, 0);
        x.note(1, 0, 0, 0, 0, 0);
        x.mark(1, 1, 1, 0, 2);
        x.yard(12);
        for (int what = 0; what <= 10; what++) due("count(" + what + ")", x.count(what), what == 2 ? 12 : 0);
        Edge.no(x, "undo()", x::undo);
        Edge.bad(x, "nut(0, 0, 0, 1)", () -> x.nut(0, 0, 0, 1));
        due("player(1, 2)", x.player(1, 2), 0);
        due("nut(0, 3, 4, 5)", x.nut(0, 3, 4, 5), 0);
        // nut 0 was BROKEN in the old yard
        int[] fresh = {0, 3, 4, 5, 0, 1};
        for (int what = 0; what < 6; what++) due("of(0, " + what + ")", x.of(0, what), fresh[what]);
        due("hards(0)", x.hards(0), 1023);
        due("is(0)", x.is(0), 63);
        due("kinds(0)", x.kinds(0), 63);
    }

    private static void whatAYardLeaves() {
        ConkerBouts x = Yards.six();
        x.image(1);
        x.type('y');
        x.odds(3, 0, 1, 5);
        x.undo();
        x.of(9, 9);
        for (int n = 0; n < 2; n++) x.player(0, 1);
        x.yard(3);
        due("from(0)", x.from(0), -3);
        due("part(0)", x.part(0), 1);
        due("part(1)", x.part(1), 2);
        due("count(10)", x.count(10), 1);
        due("status(0)", x.status(0), 1);
        due("status(1)", x.status(1), 2);
        due("status(2)", x.status(2), 1);
        due("from(1)", x.from(1), 1);
        due("count(1)", x.count(1), 6);
    }

    private static void howManyThereWere() {
        ConkerBouts x = new ConkerBouts();
        due("yard(0) of none", x.yard(0), 0);
        x.player(0, 1);
        due("yard(0) of a player alone", x.yard(0), 0);
        ConkerBouts y = Yards.six();
        y.strikes(3, 0);
        due("yard(0) of six, one BROKEN", y.yard(0), 6);
        due("yard(0) of none", y.yard(0), 0);
    }

    // ---- promise 3: player

    private static void armOfAPlayer() {
        ConkerBouts x = new ConkerBouts();
        for (int arm : new int[] {0, 10, -1, Edge.LOW, Edge.HIGH}) Edge.bad(x, "player(0, " + arm + ")", () -> x.player(0, arm));
        due("player(0, 1)", x.player(0, 1), 0);
        due("player(0, 9)", x.player(0, 9), 1);
        due("who(0, 1)", x.who(0, 1), 1);
        due("who(1, 1)", x.who(1, 1), 9);
    }

    private static void kindOfAPlayer() {
        ConkerBouts x = new ConkerBouts();
        for (int kind : new int[] {-1, 6, Edge.LOW, Edge.HIGH}) Edge.bad(x, "player(" + kind + ", 1)", () -> x.player(kind, 1));
        due("player(0, 1)", x.player(0, 1), 0);
        due("player(5, 1)", x.player(5, 1), 1);
        due("who(0, 0)", x.who(0, 0), 0);
        due("who(1, 0)", x.who(1, 0), 5);
    }

    private static void threePlayers() {
        ConkerBouts x = new ConkerBouts();
        for (int p = 0; p < 3; p++) due("player(0, 1)", x.player(0, 1), p);
        for (int n = 0; n < 2; n++) Edge.full(x, "player(0, 1)", () -> x.player(0, 1));
        due("count(0)", x.count(0), 3);
        x.yard(0);
        due("player(0, 1)", x.player(0, 1), 0);
    }

    private static void badAheadOfFull() {
        ConkerBouts x = Yards.six();
        x.player(0, 1);
        Edge.bad(x, "player(6, 1)", () -> x.player(6, 1));
        Edge.bad(x, "player(0, 0)", () -> x.player(0, 0));
        Edge.bad(x, "nut(3, 0, 0, 1)", () -> x.nut(3, 0, 0, 1));
        Edge.bad(x, "nut(0, 0, 0, 10)", () -> x.nut(0, 0, 0, 10));
        for (int n = 0; n < 150; n++) x.type(' ');
        Edge.bad(x, "type(128)", () -> x.type(128));
        Edge.bad(x, "type(-1)", () -> x.type(-1));
        for (int n = 0; n < 6; n++) x.seen(0, 0, 0, 0, 0);
        Edge.bad(x, "seen(6, 0, 0, 0, 0)", () -> x.seen(6, 0, 0, 0, 0));
        for (int n = 0; n < 7; n++) x.note(0, 0, 0, 0, 0, 0);
        Edge.bad(x, "note(0, 10, 0, 0, 0, 0)", () -> x.note(0, 10, 0, 0, 0, 0));
        for (int n = 0; n < 7; n++) x.mark(0, 1, 1, 0, 0);
        Edge.bad(x, "mark(0, 1, 1, 0, 61)", () -> x.mark(0, 1, 1, 0, 61));
        due("status(2)", x.status(2), 3);
    }

    private static void noneToUndoBehindAPlayer() {
        ConkerBouts x = Yards.two(0, 0, 0);
        x.waits(1);
        x.waits(1);
        Edge.bad(x, "player(0, 10)", () -> x.player(0, 10));
        due("count(9) behind one that was refused", x.count(9), 2);
        due("player(0, 1)", x.player(0, 1), 2);
        due("count(9)", x.count(9), 0);
        Edge.no(x, "undo()", x::undo);
        x.waits(1);
        Edge.full(x, "player(0, 1)", () -> x.player(0, 1));
        due("undo()", x.undo(), 2);
    }

    // ---- promise 4: nut

    private static void hardAndWeight() {
        ConkerBouts x = Yards.two(0, 0, 0);
        for (int hard : new int[] {-1, 10, Edge.LOW, Edge.HIGH}) Edge.bad(x, "nut(0, 0, " + hard + ", 1)", () -> x.nut(0, 0, hard, 1));
        for (int weight : new int[] {0, 10, -1, Edge.LOW, Edge.HIGH}) {
            Edge.bad(x, "nut(0, 0, 0, " + weight + ")", () -> x.nut(0, 0, 0, weight));
        }
        due("nut(0, 0, 0, 1)", x.nut(0, 0, 0, 1), 2);
        due("nut(0, 0, 9, 9)", x.nut(0, 0, 9, 9), 3);
        due("of(2, 2)", x.of(2, 2), 0);
        due("of(2, 3)", x.of(2, 3), 1);
        due("of(3, 2)", x.of(3, 2), 9);
        due("of(3, 3)", x.of(3, 3), 9);
    }

    private static void kindAndPlayerOfANut() {
        ConkerBouts x = Yards.two(0, 0, 0);
        for (int kind : new int[] {-1, 6, Edge.LOW, Edge.HIGH}) Edge.bad(x, "nut(0, " + kind + ", 0, 1)", () -> x.nut(0, kind, 0, 1));
        // player 2 is not there yet
        for (int p : new int[] {-1, 2, 3, Edge.LOW, Edge.HIGH}) Edge.bad(x, "nut(" + p + ", 0, 0, 1)", () -> x.nut(p, 0, 0, 1));
        due("nut(0, 0, 0, 1)", x.nut(0, 0, 0, 1), 2);
        due("nut(1, 5, 0, 1)", x.nut(1, 5, 0, 1), 3);
        x.player(0, 1);
        due("nut(2, 0, 0, 1)", x.nut(2, 0, 0, 1), 4);
        due("of(3, 1)", x.of(3, 1), 5);
        due("of(4, 0)", x.of(4, 0), 2);
    }

    private static void sixNuts() {
        ConkerBouts x = Yards.of(0, new int[][] {{0, 1}}, new int[0][]);
        for (int i = 0; i < 6; i++) due("nut(0, 0, 0, 1)", x.nut(0, 0, 0, 1), i);
        for (int n = 0; n < 2; n++) Edge.full(x, "nut(0, 0, 0, 1)", () -> x.nut(0, 0, 0, 1));
        due("count(1)", x.count(1), 6);
        ConkerBouts y = Yards.six();
        y.strikes(3, 0);
        Edge.full(y, "nut(0, 0, 0, 1) beside a BROKEN one", () -> y.nut(0, 0, 0, 1));
    }

    private static void freshNut() {
        ConkerBouts x = Yards.two(0, 0, 0);
        due("of(1, 4)", x.of(1, 4), 0);
        due("of(1, 5)", x.of(1, 5), 1);
        for (int n = 0; n < 2; n++) x.strikes(0, 1);
        // one that comes behind others were struck is fresh, too
        x.nut(1, 0, 0, 1);
        due("of(2, 4)", x.of(2, 4), 0);
        due("of(2, 5)", x.of(2, 5), 1);
        due("of(0, 5)", x.of(0, 5), 2);
        due("of(1, 4)", x.of(1, 4), 10);
    }

    private static void noneToUndoBehindANut() {
        ConkerBouts x = Yards.two(0, 0, 0);
        x.waits(1);
        Edge.bad(x, "nut(0, 0, 0, 0)", () -> x.nut(0, 0, 0, 0));
        due("count(9) behind one that was refused", x.count(9), 1);
        x.nut(0, 0, 0, 1);
        due("count(9)", x.count(9), 0);
        Edge.no(x, "undo()", x::undo);
        for (int n = 0; n < 3; n++) x.nut(0, 0, 0, 1);
        x.waits(1);
        Edge.full(x, "nut(0, 0, 0, 1)", () -> x.nut(0, 0, 0, 1));
        due("undo()", x.undo(), 1);
    }

    // ---- promises 5 and 6: type and clear

    private static void bytes() {
        ConkerBouts x = new ConkerBouts();
        for (int c : new int[] {-1, 128, 255, Edge.LOW, Edge.HIGH}) Edge.bad(x, "type(" + c + ")", () -> x.type(c));
        due("type(0)", x.type(0), 1);
        due("type(127)", x.type(127), 2);
    }

    private static void textIsFull() {
        ConkerBouts x = new ConkerBouts();
        for (int n = 1; n <= 150; n++) due("type(32)", x.type(32), n);
        for (int n = 0; n < 2; n++) Edge.full(x, "type(32)", () -> x.type(32));
        due("count(10)", x.count(10), 150);
        due("read()", x.read(), -10 - 150);
    }

    private static void clearOfNoneAndOfAll() {
        ConkerBouts x = new ConkerBouts();
        Edge.stays(x, "clear() of none", x::clear, 0);
        for (int n = 0; n < 150; n++) x.type('z');
        due("clear() of all", x.clear(), 150);
        due("count(10)", x.count(10), 0);
        due("read() of an empty one", x.read(), -10);
        due("clear()", x.clear(), 0);
        due("type(32)", x.type(32), 1);
        // what was there is gone: the blank alone is left
        due("read()", x.read(), -11);
    }

    private static void clearLeavesTheYard() {
        ConkerBouts x = Yards.two(5, 0, 0);
        x.waits(1);
        long before = x.digest();
        x.type('y');
        due("clear()", x.clear(), 1);
        due("digest()", x.digest(), before);
    }

    public static void main(String[] args) {
        Edge.holds(1, "As told; no PLAYERS.", YardEdgesTest::noPlayers);
        Edge.holds(1, "Refused, changing nothing but STATUS", YardEdgesTest::nothingToAskOf);
        Edge.holds(1, "(an empty one, too)", YardEdgesTest::whatNeedsNothing);
        Edge.holds(1, "THE FRACTION is 0 by 1 at first", YardEdgesTest::fractionAtFirst);
        Edge.holds(1, "the number is 0 at first", YardEdgesTest::numberAtFirst);
        Edge.holds(1, "`ConkerBouts()`", YardEdgesTest::objectsApart);
        Edge.holds(2, "STRIKES have number T (0 .. 99)", YardEdgesTest::numberOfAYard);
        Edge.holds(2, "all else as at first", YardEdgesTest::allElseAsAtFirst);
        Edge.holds(2, "(but for IMAGES, THE TEXT, THE FRACTION, STATUS)", YardEdgesTest::whatAYardLeaves);
        Edge.holds(2, "how many NUTS there were", YardEdgesTest::howManyThereWere);
        Edge.holds(3, "a KIND, an ARM (1 .. 9)", YardEdgesTest::armOfAPlayer);
        Edge.holds(3, "KINDS of PLAYERS, each under the one told", YardEdgesTest::kindOfAPlayer);
        Edge.holds(3, "A PLAYER: the number. BAD; FULL: 3.", YardEdgesTest::threePlayers);
        Edge.holds(3, "the first of: BAD -2 a number is not as told; NO -3 as told; FULL -4", YardEdgesTest::badAheadOfFull);
        Edge.holds(3, "behind a PLAYER, a NUT that comes none may be", YardEdgesTest::noneToUndoBehindAPlayer);
        Edge.holds(4, "HARD (0 .. 9), WEIGHT (1 .. 9)", YardEdgesTest::hardAndWeight);
        Edge.holds(4, "each a PLAYER's, a KIND", YardEdgesTest::kindAndPlayerOfANut);
        Edge.holds(4, "A NUT: the number. BAD; FULL: 6.", YardEdgesTest::sixNuts);
        Edge.holds(4, "CRACKS (0 at first", YardEdgesTest::freshNut);
        Edge.holds(4, "behind a PLAYER, a NUT that comes none may be", YardEdgesTest::noneToUndoBehindANut);
        Edge.holds(5, "A byte (0 .. 127) comes behind THE TEXT", YardEdgesTest::bytes);
        Edge.holds(5, "a TEXT (150 bytes at most)", YardEdgesTest::textIsFull);
        Edge.holds(6, "THE TEXT is empty: how many it had.", YardEdgesTest::clearOfNoneAndOfAll);
        Edge.holds(6, "THE TEXT is empty", YardEdgesTest::clearLeavesTheYard);
        Due.end();
    }
}
