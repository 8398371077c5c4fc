/** Promises 1 to 39, one method each: ordinary inputs, the edges that the document names, wrong inputs; answers worked out by hand. */
public final class PromisesTest {
    private static final int LOW = Integer.MIN_VALUE, HIGH = Integer.MAX_VALUE;

    private static void due(String call, long got, long want) {
        Due.due(call, got, want);
    }

    /** How many calls were refused, by reason. */
    private static void refused(ConkerBouts x, int bad, int no, int full) {
        due("status(0)", x.status(0), bad);
        due("status(1)", x.status(1), no);
        due("status(2)", x.status(2), full);
    }

    private static void reads(String text, int want) {
        due("read of '" + text + "'", Yards.readText(new ConkerBouts(), text), want);
    }

    private static void promise1() {
        due("NONE", ConkerBouts.NONE, -1);
        due("BAD", ConkerBouts.BAD, -2);
        due("NO", ConkerBouts.NO, -3);
        due("FULL", ConkerBouts.FULL, -4);
        ConkerBouts x = new ConkerBouts();
        for (int what = 0; what <= 10; what++) due("count(" + what + ")", x.count(what), 0);
        due("part(0)", x.part(0), 0);
        due("part(1)", x.part(1), 1);
        refused(x, 0, 0, 0);
        due("who(0, 0)", x.who(0, 0), -2);
        due("of(0, 0)", x.of(0, 0), -2);
        due("nut(0, 0, 0, 1)", x.nut(0, 0, 0, 1), -2);
        due("undo()", x.undo(), -3);
        due("from(0)", x.from(0), -3);
        due("from(1)", x.from(1), -3);
        due("rank(0)", x.rank(0), -3);
    }

    private static void promise2() {
        ConkerBouts x = Yards.six();
        x.strikes(3, 0);
        x.seen(1, 0, 0, 0, 0);
        x.note(1, 0, 0, 0, 0, 0);
        x.mark(1, 1, 1, 0, 2);
        x.image(1);
        x.type('y');
        x.odds(3, 1, 1, 5);
        due("yard(100)", x.yard(100), -2);
        due("yard(-1)", x.yard(-1), -2);
        due("count(1)", x.count(1), 6);
        due("yard(99)", x.yard(99), 6);
        for (int what = 0; what <= 9; what++) due("count(" + what + ")", x.count(what), what == 2 ? 99 : 0);
        due("count(10)", x.count(10), 1);
        due("part(1)", x.part(1), 2);
        refused(x, 2, 0, 0);
        due("yard(0)", x.yard(0), 0);
        due("count(2)", x.count(2), 0);
        due("from(1)", x.from(1), 1);
        due("count(1)", x.count(1), 6);
        due("player(0, 1)", x.player(0, 1), 2);
    }

    private static void promise3() {
        ConkerBouts x = new ConkerBouts();
        due("player(6, 1)", x.player(6, 1), -2);
        due("player(-1, 1)", x.player(-1, 1), -2);
        due("player(0, 0)", x.player(0, 0), -2);
        due("player(0, 10)", x.player(0, 10), -2);
        due("player(LOW, HIGH)", x.player(LOW, HIGH), -2);
        due("player(0, 1)", x.player(0, 1), 0);
        due("player(5, 9)", x.player(5, 9), 1);
        due("player(2, 4)", x.player(2, 4), 2);
        due("player(0, 1)", x.player(0, 1), -4);
        due("player(0, 0)", x.player(0, 0), -2);
        due("who(1, 0)", x.who(1, 0), 5);
        due("who(1, 1)", x.who(1, 1), 9);
        due("count(0)", x.count(0), 3);
        refused(x, 6, 0, 1);
        ConkerBouts y = Yards.two(0, 0, 0);
        y.waits(1);
        due("player(6, 1)", y.player(6, 1), -2);
        due("count(9)", y.count(9), 1);
        due("player(1, 1)", y.player(1, 1), 2);
        due("count(9)", y.count(9), 0);
        due("undo()", y.undo(), -3);
        y.waits(1);
        due("player(1, 1)", y.player(1, 1), -4);
        due("count(9)", y.count(9), 1);
    }

    private static void promise4() {
        ConkerBouts x = Yards.two(0, 0, 0);
        x.waits(2);
        due("nut(2, 0, 0, 1)", x.nut(2, 0, 0, 1), -2);
        due("nut(-1, 0, 0, 1)", x.nut(-1, 0, 0, 1), -2);
        due("nut(0, 6, 0, 1)", x.nut(0, 6, 0, 1), -2);
        due("nut(0, -1, 0, 1)", x.nut(0, -1, 0, 1), -2);
        due("nut(0, 0, 10, 1)", x.nut(0, 0, 10, 1), -2);
        due("nut(0, 0, -1, 1)", x.nut(0, 0, -1, 1), -2);
        due("nut(0, 0, 0, 0)", x.nut(0, 0, 0, 0), -2);
        due("nut(0, 0, 0, 10)", x.nut(0, 0, 0, 10), -2);
        due("count(9)", x.count(9), 1);
        due("nut(0, 5, 9, 9)", x.nut(0, 5, 9, 9), 2);
        due("count(9)", x.count(9), 0);
        due("nut(1, 0, 0, 1)", x.nut(1, 0, 0, 1), 3);
        due("nut(1, 0, 0, 1)", x.nut(1, 0, 0, 1), 4);
        due("nut(1, 4, 3, 2)", x.nut(1, 4, 3, 2), 5);
        due("nut(1, 0, 0, 1)", x.nut(1, 0, 0, 1), -4);
        due("nut(2, 0, 0, 1)", x.nut(2, 0, 0, 1), -2);
        int[] last = {1, 4, 3, 2, 0, 1};
        for (int what = 0; what < 6; what++) due("of(5, " + what + ")", x.of(5, what), last[what]);
        refused(x, 9, 0, 1);
    }

    private static void promise5() {
        ConkerBouts x = new ConkerBouts();
        due("type(-1)", x.type(-1), -2);
        due("type(128)", x.type(128), -2);
        due("type(0)", x.type(0), 1);
        due("type(127)", x.type(127), 2);
        for (int n = 3; n <= 150; n++) due("type(32)", x.type(32), n);
        due("type(32)", x.type(32), -4);
        due("type(128)", x.type(128), -2);
        due("count(10)", x.count(10), 150);
        refused(x, 3, 0, 1);
    }

    private static void promise6() {
        ConkerBouts x = new ConkerBouts();
        due("clear()", x.clear(), 0);
        x.type('a');
        x.type('b');
        due("clear()", x.clear(), 2);
        due("clear()", x.clear(), 0);
        due("count(10)", x.count(10), 0);
        due("type(1)", x.type(1), 1);
    }

    private static void promise7() {
        reads("yard 5;", 1);
        reads("  yard05;  ", 1);
        reads("yard5;player0 4;wait99;", 3);
        reads("yard 0;player 0 4;player 5 9;player 3 1;", 4);
        reads("", -10);
        reads("   ", -13);
        reads("yard", -14);
        reads("yard 5", -16);
        reads("yard 5 ", -17);
        reads("yard 5; player 1", -26);
        reads("yard 5; player 1 2", -28);
        reads("yar 5;", -10);
        reads("yards 5;", -10);
        reads("yarda 5;", -10);
        reads("yardz 5;", -10);
        reads("yard`5;", -14);
        reads("yard{5;", -14);
        reads("yard/5;", -14);
        reads("yard:5;", -14);
        reads(" Yard 5;", -11);
        reads("yarD 5;", -10);
        reads("player 0 1;", -10);
        reads(";", -10);
        reads("5", -10);
        reads("yard;", -14);
        reads("yard x;", -15);
        reads("yard 123;", -15);
        reads("yard 5 6;", -17);
        reads("yard 5;;", -17);
        reads("yard 5;yard 5;", -17);
        reads("yard 5;\t", -17);
        reads("yard\t5;", -14);
        reads("yard 5:", -16);
        reads("yard 5;player 6 1;", -24);
        reads("yard 5;player 5 0;", -26);
        reads("yard 5;player 5 10;", -26);
        reads("yard 5;nut 0 0 0 1;", -21);
        reads("yard 5;player 0 1;nut 0 6 0 1;", -34);
        reads("yard 5;player 0 1;nut 0 5 10 1;", -36);
        reads("yard 5;player 0 1;nut 0 5 9 0;", -38);
        reads("yard 5;player 0 1;nut 0 5 9 10;", -38);
        reads("yard 5;player 0 1;nut 0 5 9 9;", 3);
        reads("yard 5;player 0 1;nut 1 5 9 1;", -32);
        reads("yard 0;player 0 4;player 5 9;player 3 1;player 9", -50);
        reads("yard 5;wait 0;", -22);
        reads("yard 5;wait 100;", -22);
        reads("yard 5;strike 0 1;", -24);
        readsNutsAndStrikes();
        readStaysOrTakesThePlace();
    }

    private static void readsNutsAndStrikes() {
        String nuts = "yard 0;player 0 9;player 0 1;nut 0 0 9 9;nut 1 0 0 1;nut 1 0 9 1;nut 0 0 0 1;";
        int at = nuts.length();
        reads(nuts, 7);
        reads(nuts + "nut 0 0 0 1;nut 0 0 0 1;", 9);
        reads(nuts + "nut 0 0 0 1;nut 0 0 0 1;nut", -10 - at - 24);
        reads(nuts + "strike 0 1;strike 0 2;", 9);
        reads(nuts + "strike 0 1;strike 1 0;", -10 - at - 18);
        reads(nuts + "strike 0 1;strike 0 1;", -10 - at - 20);
        reads(nuts + "strike 0 0;", -10 - at - 9);
        reads(nuts + "strike 0 3;", -10 - at - 9);
        reads(nuts + "strike 0 4;", -10 - at - 9);
        reads(nuts + "strike 4 0;", -10 - at - 7);
        reads(nuts + "strike 0;", -10 - at - 8);
        reads(nuts + "strike 0 1", -10 - at - 10);
    }

    private static void readStaysOrTakesThePlace() {
        ConkerBouts x = Yards.six();
        x.waits(7);
        x.seen(0, 0, 0, 0, 0);
        x.image(0);
        x.odds(3, 0, 1, 5);
        long before = x.digest();
        Yards.readText(x, "y");
        due("read()", x.read(), -10);
        x.clear();
        due("digest() behind a fault", x.digest(), before);
        refused(x, 0, 0, 0);
        due("read()", Yards.readText(x, "yard 20;player 0 9;player 0 1;nut 0 0 9 9;nut 1 0 0 1;strike 0 1;wait 9;"), 7);
        int[] counts = {2, 2, 30, 2, 10, 3, 0, 0, 0, 0, 72};
        for (int what = 0; what <= 10; what++) due("count(" + what + ")", x.count(what), counts[what]);
        due("of(0, 5)", x.of(0, 5), 2);
        due("undo()", x.undo(), -3);
        due("part(1)", x.part(1), 2);
        due("from(0)", x.from(0), 1);
        due("count(2)", x.count(2), 7);
        due("count(6)", x.count(6), 1);
    }

    private static void promise8() {
        ConkerBouts x = Yards.two(0, 0, 5);
        due("strikes(0, 1)", x.strikes(0, 1), 4);
        due("of(0, 4)", x.of(0, 4), 0);
        due("strikes(1, 0)", x.strikes(1, 0), 0);
        due("strikes(0, 1)", x.strikes(0, 1), 8);
        due("of(0, 5)", x.of(0, 5), 1);
        due("strikes(0, 1)", x.strikes(0, 1), 10);
        due("of(0, 5)", x.of(0, 5), 2);
        due("of(1, 5)", x.of(1, 5), 1);
        due("count(2)", x.count(2), 4);
        due("strikes(0, 1)", x.strikes(0, 1), -3);
        due("strikes(1, 0)", x.strikes(1, 0), -3);
        due("strikes(0, 0)", x.strikes(0, 0), -2);
        due("strikes(0, 2)", x.strikes(0, 2), -2);
        due("strikes(-1, 0)", x.strikes(-1, 0), -2);
        due("strikes(HIGH, LOW)", x.strikes(HIGH, LOW), -2);
        due("count(2)", x.count(2), 4);
        refused(x, 4, 2, 0);
        ConkerBouts y = Yards.bothBreak();
        y.nut(0, 0, 0, 1);
        due("strikes(0, 2)", y.strikes(0, 2), -3);
        due("strikes(0, 1)", y.strikes(0, 1), 10);
        due("of(0, 4)", y.of(0, 4), 10);
        due("count(5)", y.count(5), 3);
        strikeByKinds();
        strikerBreaksByItself();
        scoreIsHandedOn();
    }

    private static void strikeByKinds() {
        int[][] rows = {
            // t of the strike, kind, hard, cracks by force 9
            {1, 0, 0, 9}, {1, 0, 9, 0}, {1, 1, 4, 2}, {1, 1, 8, 0}, {1, 2, 5, 6}, {1, 2, 8, 3}, {1, 2, 9, 0},
            {1, 3, 0, 2}, {1, 3, 6, 1}, {1, 3, 8, 0}, {1, 4, 6, 5}, {1, 4, 9, 0}, {1, 5, 5, 3}, {2, 5, 5, 4},
            {1, 5, 8, 0}, {2, 5, 8, 1}, {1, 5, 9, 0}, {2, 2, 0, 10},
        };
        for (int[] r : rows) {
            due("kind " + r[1] + " hard " + r[2] + " in " + r[0], Yards.two(r[0] - 1, r[1], r[2]).strikes(0, 1), r[3]);
        }
        ConkerBouts hollow = Yards.two(0, 4, 8);
        due("a hollow one, 0 ahead", hollow.strikes(0, 1), 3);
        due("a hollow one, 3 ahead", hollow.strikes(0, 1), 9);
        due("a hollow one, 9 ahead", hollow.strikes(0, 1), 10);
    }

    private static void strikerBreaksByItself() {
        ConkerBouts x = new ConkerBouts();
        x.player(0, 9);
        x.player(4, 1);
        x.nut(0, 2, 0, 9);
        x.nut(1, 3, 9, 1);
        due("strikes(0, 1)", x.strikes(0, 1), 2);
        due("of(0, 4)", x.of(0, 4), 10);
        due("of(1, 5)", x.of(1, 5), 2);
        due("of(0, 5)", x.of(0, 5), 1);
    }

    /** Who breaks one that has broken three has all that it had. */
    private static void scoreIsHandedOn() {
        ConkerBouts x = new ConkerBouts();
        x.player(0, 9);
        x.player(0, 9);
        x.player(0, 9);
        for (int i = 0; i < 6; i++) x.nut(i % 2, 0, i % 2 == 0 ? 9 : 0, 9);
        x.strikes(0, 1);
        due("of(0, 5)", x.of(0, 5), 2);
        x.strikes(0, 3);
        x.strikes(0, 5);
        due("of(0, 5)", x.of(0, 5), 4);
        due("hands(2, 1)", x.hands(2, 1), 0);
        due("strikes(2, 0)", x.strikes(2, 0), 9);
        due("strikes(2, 0)", x.strikes(2, 0), 10);
        due("of(2, 5)", x.of(2, 5), 5);
        due("count(5)", x.count(5), 1 * 4 + 4 + 5);
    }

    private static void promise9() {
        ConkerBouts x = Yards.two(0, 0, 0);
        due("waits(0)", x.waits(0), -2);
        due("waits(61)", x.waits(61), -2);
        due("waits(LOW)", x.waits(LOW), -2);
        due("waits(1)", x.waits(1), 1);
        due("waits(60)", x.waits(60), 61);
        due("count(9)", x.count(9), 2);
        for (int n = 0; n < 165; n++) x.waits(60);
        due("count(2)", x.count(2), 9961);
        due("waits(37)", x.waits(37), 9998);
        due("waits(60)", x.waits(60), 9999);
        due("waits(1)", x.waits(1), 9999);
        due("strikes(0, 1)", x.strikes(0, 1), 9);
        due("count(2)", x.count(2), 9999);
        due("undo()", x.undo(), 9999);
        due("undo()", x.undo(), 9999);
        due("undo()", x.undo(), 9998);
        refused(x, 3, 0, 0);
    }

    private static void promise10() {
        ConkerBouts x = Yards.two(0, 0, 0);
        x.player(5, 2);
        due("hands(0, 0)", x.hands(0, 0), -3);
        due("hands(0, 2)", x.hands(0, 2), 0);
        due("of(0, 0)", x.of(0, 0), 2);
        due("of(0, 6)", x.of(0, 6), 7);
        due("hands(0, 1)", x.hands(0, 1), 2);
        due("of(0, 7)", x.of(0, 7), 0);
        due("strikes(0, 1)", x.strikes(0, 1), -3);
        due("hands(0, 3)", x.hands(0, 3), -2);
        due("hands(0, -1)", x.hands(0, -1), -2);
        due("hands(2, 0)", x.hands(2, 0), -2);
        due("hands(-1, 0)", x.hands(-1, 0), -2);
        due("count(9)", x.count(9), 2);
        x.hands(0, 0);
        x.strikes(0, 1);
        x.strikes(0, 1);
        due("hands(1, 0)", x.hands(1, 0), -3);
        due("hands(1, 1)", x.hands(1, 1), -3);
        due("count(2)", x.count(2), 2);
        refused(x, 4, 4, 0);
    }

    private static void promise11() {
        ConkerBouts x = Yards.two(10, 0, 5);
        due("undo()", x.undo(), -3);
        long first = x.digest();
        x.strikes(0, 1);
        x.hands(1, 0);
        x.hands(1, 1);
        x.waits(5);
        x.strikes(0, 1);
        x.strikes(0, 1);
        due("of(0, 5)", x.of(0, 5), 2);
        due("count(9)", x.count(9), 6);
        due("undo()", x.undo(), 17);
        due("of(0, 5)", x.of(0, 5), 1);
        due("of(1, 4)", x.of(1, 4), 8);
        due("undo()", x.undo(), 16);
        due("undo()", x.undo(), 11);
        due("undo()", x.undo(), 11);
        due("of(1, 0)", x.of(1, 0), 0);
        due("undo()", x.undo(), 11);
        due("of(1, 0)", x.of(1, 0), 1);
        due("undo()", x.undo(), 10);
        due("digest()", x.digest(), first);
        due("undo()", x.undo(), -3);
        refused(x, 0, 2, 0);
        for (int n = 1; n <= 10; n++) x.waits(n);
        due("count(9)", x.count(9), 8);
        int[] numbers = {55, 46, 38, 31, 25, 20, 16, 13};
        for (int number : numbers) due("undo()", x.undo(), number);
        due("undo()", x.undo(), -3);
        x.waits(1);
        x.seen(1, 0, 0, 0, 0);
        x.undo();
        due("count(6)", x.count(6), 1);
    }

    private static void promise12() {
        ConkerBouts x = Yards.six();
        int[] told = {1, 0, 9, 9, 0, 1, 18, 7};
        for (int what = 0; what <= 7; what++) due("of(4, " + what + ")", x.of(4, what), told[what]);
        due("of(0, 7)", x.of(0, 7), 56);
        x.strikes(3, 1);
        due("of(4, 7)", x.of(4, 7), 5);
        due("of(1, 7)", x.of(1, 7), 0);
        due("of(1, 4)", x.of(1, 4), 10);
        due("of(1, 6)", x.of(1, 6), 2);
        due("of(6, 0)", x.of(6, 0), -2);
        due("of(-1, 0)", x.of(-1, 0), -2);
        due("of(0, 8)", x.of(0, 8), -2);
        due("of(0, -1)", x.of(0, -1), -2);
        refused(x, 4, 0, 0);
        forceByKinds();
    }

    private static void forceByKinds() {
        int[][] rows = {
            // kind, arm, weight, t of the strike, force
            {0, 4, 5, 1, 9}, {1, 4, 5, 1, 12}, {2, 4, 5, 1, 9}, {2, 4, 5, 2, 13}, {2, 4, 5, 3, 9}, {3, 4, 5, 4, 12},
            {3, 4, 5, 5, 11}, {3, 4, 5, 55, 1}, {3, 4, 5, 100, 1}, {4, 4, 5, 1, 5}, {4, 4, 4, 1, 4}, {4, 1, 1, 1, 1},
            {5, 4, 5, 1, 9}, {5, 4, 5, 2, 13}, {5, 4, 5, 7, 18}, {5, 4, 5, 14, 26}, {5, 9, 9, 14, 44},
        };
        for (int[] r : rows) {
            ConkerBouts x = new ConkerBouts();
            x.yard(r[3] - 1);
            x.player(r[0], r[1]);
            x.nut(0, 0, 0, r[2]);
            due("force of kind " + r[0] + " in " + r[3], x.of(0, 6), r[4]);
        }
    }

    private static void promise13() {
        ConkerBouts x = Yards.six();
        due("who(0, 0)", x.who(0, 0), 0);
        due("who(1, 1)", x.who(1, 1), 9);
        due("who(0, 2)", x.who(0, 2), 7);
        due("who(1, 2)", x.who(1, 2), 56);
        due("who(1, 3)", x.who(1, 3), 3);
        x.strikes(4, 1);
        due("who(0, 2)", x.who(0, 2), 5);
        due("who(0, 3)", x.who(0, 3), 2);
        due("who(1, 3)", x.who(1, 3), 4);
        due("who(2, 0)", x.who(2, 0), -2);
        due("who(-1, 0)", x.who(-1, 0), -2);
        due("who(0, 4)", x.who(0, 4), -2);
        due("who(0, -1)", x.who(0, -1), -2);
        refused(x, 4, 0, 0);
    }

    private static void promise14() {
        ConkerBouts x = Yards.two(0, 0, 5);
        long before = x.digest();
        due("crack(0, 1, 0)", x.crack(0, 1, 0), 4);
        due("crack(0, 1, 1)", x.crack(0, 1, 1), 0);
        due("crack(1, 0, 0)", x.crack(1, 0, 0), 0);
        due("digest()", x.digest(), before);
        due("crack(0, 0, 0)", x.crack(0, 0, 0), -2);
        due("crack(0, 2, 0)", x.crack(0, 2, 0), -2);
        due("crack(2, 0, 0)", x.crack(2, 0, 0), -2);
        due("crack(0, 1, 2)", x.crack(0, 1, 2), -2);
        due("crack(0, 1, -1)", x.crack(0, 1, -1), -2);
        x.nut(0, 0, 0, 5);
        due("crack(2, 1, 1)", x.crack(2, 1, 1), 4);
        due("crack(0, 2, 0)", x.crack(0, 2, 0), -1);
        for (int n = 0; n < 3; n++) x.strikes(0, 1);
        due("crack(0, 1, 0)", x.crack(0, 1, 0), -1);
        due("crack(1, 0, 1)", x.crack(1, 0, 1), -1);
        due("crack(0, 1, 0) of 18 upon 0", Yards.bothBreak().crack(0, 1, 0), 10);
        refused(x, 5, 0, 0);
    }

    private static void promise15() {
        ConkerBouts x = Yards.two(0, 0, 5);
        long before = x.digest();
        due("lasts(0, 1, 0)", x.lasts(0, 1, 0), 3);
        due("lasts(0, 1, 1)", x.lasts(0, 1, 1), 0);
        due("lasts(1, 0, 0)", x.lasts(1, 0, 0), -1);
        due("lasts(1, 0, 1)", x.lasts(1, 0, 1), -1);
        due("digest()", x.digest(), before);
        due("lasts(0, 0, 0)", x.lasts(0, 0, 0), -2);
        due("lasts(0, 2, 0)", x.lasts(0, 2, 0), -2);
        due("lasts(-1, 0, 0)", x.lasts(-1, 0, 0), -2);
        due("lasts(0, 1, 2)", x.lasts(0, 1, 2), -2);
        due("lasts(0, 1, -1)", x.lasts(0, 1, -1), -2);
        x.nut(0, 0, 0, 1);
        due("lasts(0, 2, 0)", x.lasts(0, 2, 0), -1);
        for (int n = 0; n < 3; n++) x.strikes(0, 1);
        due("lasts(0, 1, 0)", x.lasts(0, 1, 0), -1);
        due("lasts(0, 1, 1)", x.lasts(0, 1, 1), -1);
        due("lasts(1, 0, 1)", x.lasts(1, 0, 1), -1);
        refused(x, 5, 0, 0);
        due("lasts(0, 1, 0), both", Yards.bothBreak().lasts(0, 1, 0), 1);
        due("lasts(0, 1, 1), both", Yards.bothBreak().lasts(0, 1, 1), -1);
        lastsSixty();
    }

    /** One crack each sixth strike: a sly one's four more count when t by 3 leaves 2 over, the damp one's one less when t is odd. */
    private static void lastsSixty() {
        ConkerBouts x = new ConkerBouts();
        x.player(2, 1);
        x.player(0, 1);
        x.nut(0, 0, 9, 4);
        x.nut(1, 5, 8, 1);
        due("lasts(0, 1, 0)", x.lasts(0, 1, 0), 56);
        x.waits(2);
        due("lasts(0, 1, 0) from 2", x.lasts(0, 1, 0), 60);
        due("lasts(0, 1, 1) from 2", x.lasts(0, 1, 1), 0);
        x.hands(0, 1);
        due("lasts of like ones", x.lasts(0, 1, 0), -1);
        lastsOneMore();
    }

    /** A wild one cracks nut 1 when t by 21 leaves 14 over, and by two each time: in 35, 56 and 77. */
    private static void lastsOneMore() {
        ConkerBouts x = new ConkerBouts();
        x.yard(14);
        x.player(5, 1);
        x.player(0, 1);
        x.player(0, 9);
        x.nut(0, 0, 9, 3);
        x.nut(1, 3, 9, 1);
        x.nut(2, 0, 9, 9);
        for (int n = 1; n <= 2; n++) due("strikes(2, 1)", x.strikes(2, 1), 2 * n);
        due("count(2)", x.count(2), 16);
        due("lasts(0, 1, 0) by 61", x.lasts(0, 1, 0), -1);
        due("lasts(0, 1, 1) by 61", x.lasts(0, 1, 1), -1);
        x.waits(1);
        due("lasts(0, 1, 0) by 60", x.lasts(0, 1, 0), 60);
        due("lasts(0, 1, 1) by 60", x.lasts(0, 1, 1), 0);
    }

    private static void promise16() {
        ConkerBouts x = Yards.two(0, 0, 5);
        long before = x.digest();
        due("bout(0, 1, 0)", x.bout(0, 1, 0), 5);
        due("bout(0, 1, 1)", x.bout(0, 1, 1), 0);
        due("bout(0, 1, 2)", x.bout(0, 1, 2), 2);
        due("bout(1, 0, 0)", x.bout(1, 0, 0), 6);
        due("bout(1, 0, 1)", x.bout(1, 0, 1), 0);
        due("digest()", x.digest(), before);
        due("bout(1, 1, 0)", x.bout(1, 1, 0), -2);
        due("bout(2, 1, 0)", x.bout(2, 1, 0), -2);
        due("bout(1, 2, 0)", x.bout(1, 2, 0), -2);
        due("bout(0, 1, 3)", x.bout(0, 1, 3), -2);
        due("bout(0, 1, -1)", x.bout(0, 1, -1), -2);
        x.nut(0, 0, 0, 1);
        for (int what = 0; what <= 2; what++) due("bout(0, 2, " + what + ")", x.bout(0, 2, what), -1);
        for (int n = 0; n < 3; n++) x.strikes(0, 1);
        for (int what = 0; what <= 2; what++) due("bout(0, 1, " + what + ")", x.bout(0, 1, what), -1);
        for (int what = 0; what <= 2; what++) due("bout(1, 0, " + what + ")", x.bout(1, 0, what), -1);
        refused(x, 5, 0, 0);
        due("bout(0, 1, 0), both", Yards.bothBreak().bout(0, 1, 0), 1);
        due("bout(0, 1, 1), both", Yards.bothBreak().bout(0, 1, 1), -1);
        due("bout(0, 1, 2), both", Yards.bothBreak().bout(0, 1, 2), -1);
        ConkerBouts never = Yards.two(0, 0, 9);
        for (int what = 0; what <= 2; what++) due("bout that never ends, " + what, never.bout(0, 1, what), -1);
    }

    private static void promise17() {
        ConkerBouts x = Yards.six();
        for (int k = 0; k < 6; k++) due("rank(" + k + ")", x.rank(k), k);
        due("rank(-1)", x.rank(-1), -2);
        due("rank(LOW)", x.rank(LOW), -2);
        due("rank(6)", x.rank(6), -3);
        due("rank(HIGH)", x.rank(HIGH), -3);
        x.strikes(4, 0);
        x.strikes(5, 1);
        x.strikes(5, 2);
        int[] ranks = {5, 4, 3, 0, 1, 2};
        for (int k = 0; k < 6; k++) due("rank(" + k + ")", x.rank(k), ranks[k]);
        refused(x, 2, 2, 0);
        ConkerBouts y = Yards.six();
        y.strikes(3, 0);
        y.hands(4, 0);
        // nut 4's weight of 9 makes player 0's blow 10: one crack for nut 3 of score 2 each time
        while (y.of(3, 4) < 10 && y.strikes(4, 3) >= 0) due("of(4, 4)", y.of(4, 4), 0);
        due("count(3)", y.count(3), 9);
        due("rank(0)", y.rank(0), 4);
        due("rank(4)", y.rank(4), 3);
        due("rank(5)", y.rank(5), 0);
    }

    private static void promise18() {
        ConkerBouts x = Yards.six();
        long before = x.digest();
        due("order(3, -2)", x.order(3, -2), 4);
        due("order(3, -1)", x.order(3, -1), 0);
        for (int k = 0; k < 3; k++) due("order(3, " + k + ")", x.order(3, k), k);
        due("order(3, 3)", x.order(3, 3), -5);
        due("order(3, HIGH)", x.order(3, HIGH), -5);
        // nut 0 breaks by the first answer: of like orders the first
        due("order(0, -2)", x.order(0, -2), 1);
        due("order(0, -1)", x.order(0, -1), 10);
        for (int k = 0; k < 3; k++) due("order(0, " + k + ")", x.order(0, k), 3 + k);
        due("digest()", x.digest(), before);
        due("order(6, 0)", x.order(6, 0), -10);
        due("order(-1, 0)", x.order(-1, 0), -10);
        due("order(0, -3)", x.order(0, -3), -10);
        x.strikes(3, 0);
        due("order(0, -2)", x.order(0, -2), 1);
        due("order(0, -1)", x.order(0, -1), 10);
        due("order(0, 0)", x.order(0, 0), -5);
        refused(x, 3, 0, 0);
        orderThatMatters();
        orderByCracks();
    }

    /** Nut 0 can break the weak nuts 2 and 3, but not 1, which breaks it: that one comes last. */
    private static void orderThatMatters() {
        ConkerBouts x = new ConkerBouts();
        x.player(0, 2);
        x.player(0, 5);
        x.nut(0, 0, 9, 9);
        x.nut(1, 0, 9, 9);
        x.nut(1, 0, 1, 1);
        x.nut(1, 0, 0, 1);
        due("order(0, -2)", x.order(0, -2), 3);
        due("order(0, -1)", x.order(0, -1), 10);
        due("order(0, 0)", x.order(0, 0), 2);
        due("order(0, 1)", x.order(0, 1), 3);
        due("order(0, 2)", x.order(0, 2), 1);
        due("order(0, 3)", x.order(0, 3), -5);
    }

    /** Nut 1 answers once, which hurts in strike 2, but not in 3: so the one that never answers is to be met first. */
    private static void orderByCracks() {
        ConkerBouts x = new ConkerBouts();
        x.player(0, 9);
        x.player(2, 2);
        x.nut(0, 0, 9, 9);
        x.nut(1, 0, 9, 4);
        x.nut(1, 0, 0, 4);
        due("bout(0, 1, 0)", x.bout(0, 1, 0), 3);
        due("bout(0, 2, 0)", x.bout(0, 2, 0), 1);
        due("order(0, -2)", x.order(0, -2), 3);
        due("order(0, -1)", x.order(0, -1), 0);
        due("order(0, 0)", x.order(0, 0), 2);
        due("order(0, 1)", x.order(0, 1), 1);
    }

    private static void promise19() {
        ConkerBouts x = Yards.two(0, 0, 5);
        long before = x.digest();
        due("firm(0, 1)", x.firm(0, 1), 2);
        due("firm(1, 0)", x.firm(1, 0), -1);
        due("digest()", x.digest(), before);
        due("firm(0, 0)", x.firm(0, 0), -2);
        due("firm(2, 0)", x.firm(2, 0), -2);
        due("firm(0, -1)", x.firm(0, -1), -2);
        x.nut(0, 0, 0, 1);
        due("firm(0, 2)", x.firm(0, 2), -1);
        for (int n = 0; n < 3; n++) x.strikes(0, 1);
        due("firm(0, 1)", x.firm(0, 1), -1);
        due("firm(1, 0)", x.firm(1, 0), -1);
        refused(x, 3, 0, 0);
    }

    private static void promise20() {
        ConkerBouts x = Yards.six();
        long before = x.digest();
        due("fit(1, 0)", x.fit(1, 0), 30);
        due("fit(1, 1)", x.fit(1, 1), 2);
        due("fit(0, 0)", x.fit(0, 0), -1);
        due("fit(0, 1)", x.fit(0, 1), -1);
        due("digest()", x.digest(), before);
        x.strikes(4, 1);
        due("fit(1, 0)", x.fit(1, 0), 40);
        due("fit(1, 1)", x.fit(1, 1), 3);
        due("fit(2, 0)", x.fit(2, 0), -2);
        due("fit(-1, 0)", x.fit(-1, 0), -2);
        due("fit(0, 2)", x.fit(0, 2), -2);
        due("fit(0, -1)", x.fit(0, -1), -2);
        refused(x, 4, 0, 0);
    }

    private static void promise21() {
        ConkerBouts x = Yards.two(0, 0, 5);
        int[][] wrong = {
            {2, 0, 0, 0, 0}, {-1, 0, 0, 0, 0}, {0, 100, 0, 0, 0}, {0, -1, 0, 0, 0}, {0, 0, 10, 0, 0}, {0, 0, -1, 0, 0},
            {0, 0, 0, 45, 0}, {0, 0, 0, -1, 0}, {0, 0, 0, 0, 61}, {0, 0, 0, 0, -1},
        };
        for (int[] w : wrong) due("seen, wrong", x.seen(w[0], w[1], w[2], w[3], w[4]), -2);
        due("count(6)", x.count(6), 0);
        due("seen(1, 99, 9, 44, 60)", x.seen(1, 99, 9, 44, 60), 1);
        for (int n = 2; n <= 5; n++) due("seen(0, 0, 0, 0, 0)", x.seen(0, 0, 0, 0, 0), n);
        due("seen(0, 0, 0, 0, 0)", x.seen(0, 0, 0, 0, 0), -4);
        due("seen(0, 0, 0, 0, 61)", x.seen(0, 0, 0, 0, 61), -2);
        due("count(6)", x.count(6), 5);
        refused(x, 11, 0, 1);
    }

    private static void promise22() {
        ConkerBouts x = Yards.two(0, 1, 5);
        due("hards(1)", x.hards(1), 1023);
        // an old one: half of 9 - h is 2 by h 4 and 5
        x.seen(1, 1, 0, 9, 2);
        due("hards(1)", x.hards(1), 48);
        due("hards(0)", x.hards(0), 1023);
        x.seen(1, 1, 0, 8, 1);
        due("hards(1)", x.hards(1), 32);
        x.seen(1, 1, 0, 8, 9);
        due("hards(1)", x.hards(1), 0);
        due("hards(2)", x.hards(2), -2);
        due("hards(-1)", x.hards(-1), -2);
        refused(x, 2, 0, 0);
        ConkerBouts hollow = Yards.two(0, 4, 5);
        hollow.seen(1, 0, 9, 44, 55);
        due("hards(1), hollow", hollow.hards(1), 1);
        ConkerBouts damp = Yards.two(0, 5, 5);
        damp.seen(1, 3, 0, 9, 3);
        due("hards(1), damp, odd", damp.hards(1), 32);
        damp.forget(0);
        damp.seen(1, 4, 0, 9, 3);
        due("hards(1), damp, even", damp.hards(1), 64);
    }

    private static void promise23() {
        ConkerBouts x = Yards.two(0, 0, 5);
        due("tell(0)", x.tell(0), 90);
        due("tell(2)", x.tell(2), -2);
        due("tell(-1)", x.tell(-1), -2);
        // 6 and 7 are left: by force 8 they get 1 and 0
        ConkerBouts pickled = Yards.two(0, 3, 5);
        pickled.seen(1, 1, 0, 9, 1);
        due("hards(1)", pickled.hards(1), 192);
        due("tell(1)", pickled.tell(1), 80);
        pickled.seen(1, 1, 0, 9, 2);
        due("tell(1)", pickled.tell(1), -1);
        ConkerBouts damp = Yards.two(0, 5, 5);
        damp.seen(1, 1, 0, 2, 1);
        due("tell(1), one hard", damp.tell(1), 0);
        damp.forget(0);
        // in an odd strike one less: by 9 the hards 8 and 9 get none, by 10 all are unlike
        due("tell(1), odd", damp.tell(1), 100);
        damp.waits(1);
        due("tell(1), even", damp.tell(1), 90);
        refused(x, 2, 0, 0);
    }

    private static void promise24() {
        ConkerBouts x = Yards.two(0, 0, 5);
        int[][] wrong = {
            {2, 0, 0, 0, 0, 0}, {-1, 0, 0, 0, 0, 0}, {0, 10, 0, 0, 0, 0}, {0, -1, 0, 0, 0, 0}, {0, 0, 100, 0, 0, 0},
            {0, 0, -1, 0, 0, 0}, {0, 0, 0, 10, 0, 0}, {0, 0, 0, -1, 0, 0}, {0, 0, 0, 0, 45, 0}, {0, 0, 0, 0, -1, 0},
            {0, 0, 0, 0, 0, 61}, {0, 0, 0, 0, 0, -1},
        };
        for (int[] w : wrong) due("note, wrong", x.note(w[0], w[1], w[2], w[3], w[4], w[5]), -2);
        due("count(7)", x.count(7), 0);
        due("note(1, 9, 99, 9, 44, 60)", x.note(1, 9, 99, 9, 44, 60), 1);
        for (int n = 2; n <= 6; n++) due("note(0, ..)", x.note(0, 0, 0, 0, 0, 0), n);
        due("note(0, ..)", x.note(0, 0, 0, 0, 0, 0), -4);
        due("note, wrong", x.note(0, 0, 0, 0, 0, 61), -2);
        due("count(7)", x.count(7), 6);
        refused(x, 13, 0, 1);
    }

    private static void promise25() {
        ConkerBouts x = Yards.two(0, 0, 5);
        int[][] wrong = {
            {2, 1, 1, 0, 0}, {-1, 1, 1, 0, 0}, {0, 0, 1, 0, 0}, {0, 10, 1, 0, 0}, {0, 1, 0, 0, 0}, {0, 1, 10, 0, 0},
            {0, 1, 1, -1, 0}, {0, 1, 1, 100, 0}, {0, 1, 1, 0, -1}, {0, 1, 1, 0, 61},
        };
        for (int[] w : wrong) due("mark, wrong", x.mark(w[0], w[1], w[2], w[3], w[4]), -2);
        due("count(8)", x.count(8), 0);
        due("mark(1, 9, 9, 99, 60)", x.mark(1, 9, 9, 99, 60), 1);
        for (int n = 2; n <= 6; n++) due("mark(0, ..)", x.mark(0, 1, 1, 0, 0), n);
        due("mark(0, ..)", x.mark(0, 1, 1, 0, 0), -4);
        due("mark, wrong", x.mark(0, 0, 1, 0, 0), -2);
        due("count(8)", x.count(8), 6);
        refused(x, 11, 0, 1);
    }

    private static void promise26() {
        ConkerBouts x = Yards.two(0, 0, 5);
        x.seen(0, 0, 0, 0, 0);
        x.note(0, 0, 0, 0, 0, 0);
        x.note(0, 0, 0, 0, 0, 0);
        for (int n = 0; n < 3; n++) x.mark(0, 1, 1, 0, 0);
        due("forget(3)", x.forget(3), -2);
        due("forget(-1)", x.forget(-1), -2);
        for (int what = 0; what < 3; what++) {
            due("forget(" + what + ")", x.forget(what), what + 1);
            due("forget(" + what + ")", x.forget(what), 0);
            for (int other = 0; other < 3; other++) {
                due("count(" + (6 + other) + ")", x.count(6 + other), other <= what ? 0 : other + 1);
            }
        }
        refused(x, 2, 0, 0);
    }

    private static void promise27() {
        ConkerBouts x = Yards.two(0, 0, 5);
        due("is(0)", x.is(0), 63);
        // 9 upon hard 5 in an even strike, 0 ahead: 4, 2, 6, 2, 6, 4
        x.note(0, 5, 2, 0, 9, 4);
        due("is(0)", x.is(0), 33);
        due("is(1)", x.is(1), 63);
        // in an odd one: 4 and 3
        x.note(0, 5, 3, 0, 9, 3);
        due("is(0)", x.is(0), 32);
        x.note(0, 5, 3, 0, 9, 4);
        due("is(0)", x.is(0), 0);
        x.note(1, 5, 2, 0, 9, 6);
        due("is(1)", x.is(1), 20);
        x.note(1, 4, 2, 3, 9, 10);
        due("is(1)", x.is(1), 16);
        due("is(2)", x.is(2), -2);
        due("is(-1)", x.is(-1), -2);
        refused(x, 2, 0, 0);
    }

    private static void promise28() {
        ConkerBouts x = Yards.two(0, 0, 5);
        // strike 1, hard 5: by 11, 1 ahead: 6, 3, 8, 2, 9, 5
        due("look(1)", x.look(1), 111);
        x.note(1, 5, 2, 0, 9, 6);
        // baked or hollow: unlike by any force above 5, if there is a crack ahead
        due("look(1)", x.look(1), 61);
        x.note(1, 5, 2, 0, 9, 5);
        due("look(1)", x.look(1), -1);
        due("look(2)", x.look(2), -2);
        due("look(-1)", x.look(-1), -2);
        refused(x, 2, 0, 0);
        ConkerBouts damp = Yards.two(0, 0, 5);
        damp.note(1, 5, 2, 0, 9, 4);
        due("look(1), odd", damp.look(1), 60);
        damp.waits(1);
        due("look(1), even", damp.look(1), 0);
    }

    private static void promise29() {
        ConkerBouts x = Yards.two(0, 0, 5);
        due("kinds(0)", x.kinds(0), 63);
        // arm 4, weight 5 in strike 3: 9, 12, 9, 12, 5, 9
        x.mark(0, 4, 5, 3, 9);
        due("kinds(0)", x.kinds(0), 37);
        due("kinds(1)", x.kinds(1), 63);
        x.mark(0, 4, 5, 5, 13);
        due("kinds(0)", x.kinds(0), 36);
        x.mark(0, 4, 5, 0, 18);
        due("kinds(0)", x.kinds(0), 32);
        x.mark(0, 4, 5, 0, 17);
        due("kinds(0)", x.kinds(0), 0);
        x.mark(1, 4, 5, 99, 1);
        due("kinds(1)", x.kinds(1), 8);
        due("kinds(2)", x.kinds(2), -2);
        due("kinds(-1)", x.kinds(-1), -2);
        refused(x, 2, 0, 0);
    }

    private static void promise30() {
        ConkerBouts x = Yards.two(0, 0, 5);
        // arm 4, weight 1 in 14: 5, 8, 9, 6, 3, 18
        due("ask(0)", x.ask(0), 141);
        x.mark(0, 4, 5, 3, 12);
        // strong or tired: unlike from 5 on
        due("ask(0)", x.ask(0), 51);
        x.mark(0, 4, 5, 5, 12);
        due("ask(0)", x.ask(0), 1);
        x.mark(0, 4, 5, 5, 13);
        due("ask(0)", x.ask(0), -1);
        due("ask(2)", x.ask(2), -2);
        due("ask(-1)", x.ask(-1), -2);
        refused(x, 2, 0, 0);
    }

    private static void promise31() {
        ConkerBouts x = Yards.six();
        long before = x.digest();
        // all bouts of 1 against 0 are alike, and so all nine pairs rest
        due("pair(1, 0, -1)", x.pair(1, 0, -1), 9);
        due("pair(1, 0, 0)", x.pair(1, 0, 0), 30);
        due("pair(1, 0, 8)", x.pair(1, 0, 8), 52);
        due("pair(1, 0, 9)", x.pair(1, 0, 9), -5);
        due("pair(0, 1, 0)", x.pair(0, 1, 0), 3);
        due("digest()", x.digest(), before);
        due("pair(0, 0, 0)", x.pair(0, 0, 0), -10);
        due("pair(0, 2, 0)", x.pair(0, 2, 0), -10);
        due("pair(-1, 0, 0)", x.pair(-1, 0, 0), -10);
        due("pair(0, 1, -2)", x.pair(0, 1, -2), -10);
        x.strikes(4, 1);
        due("pair(1, 0, -1)", x.pair(1, 0, -1), 6);
        due("pair(1, 0, 1)", x.pair(1, 0, 1), 32);
        x.strikes(4, 0);
        x.strikes(4, 2);
        due("pair(1, 0, -1)", x.pair(1, 0, -1), 0);
        due("pair(1, 0, 0)", x.pair(1, 0, 0), -5);
        refused(x, 4, 0, 0);
        pairThatIsBest();
    }

    /** Player 0's hard nut 0 wins, the soft one 1 breaks itself: 0 is named; of player 1's the one that cracks least by it, 3. */
    private static void pairThatIsBest() {
        ConkerBouts x = new ConkerBouts();
        x.player(0, 5);
        x.player(0, 1);
        x.nut(0, 0, 9, 5);
        x.nut(0, 0, 0, 5);
        x.nut(1, 0, 0, 1);
        x.nut(1, 3, 9, 1);
        due("pair(0, 1, -1)", x.pair(0, 1, -1), 1);
        due("pair(0, 1, 0)", x.pair(0, 1, 0), 3);
        pairThatTies();
    }

    /** Nut 0 breaks nut 2 at a blow and gets three cracks by it, nut 1 does nothing and gets nothing: that is alike. */
    private static void pairThatTies() {
        ConkerBouts x = new ConkerBouts();
        x.player(0, 4);
        x.player(0, 1);
        x.nut(0, 0, 3, 9);
        x.nut(0, 0, 9, 1);
        x.nut(1, 2, 5, 1);
        due("crack(0, 2, 0)", x.crack(0, 2, 0), 10);
        due("crack(0, 2, 1)", x.crack(0, 2, 1), 3);
        due("bout(1, 2, 0)", x.bout(1, 2, 0), -1);
        due("pair(0, 1, -1)", x.pair(0, 1, -1), 2);
        due("pair(0, 1, 0)", x.pair(0, 1, 0), 2);
        due("pair(0, 1, 1)", x.pair(0, 1, 1), 12);
    }

    private static void promise32() {
        ConkerBouts x = Yards.two(0, 0, 5);
        long before = x.digest();
        due("odds(0, 1, 3, 5)", x.odds(0, 1, 3, 5), 1);
        due("part(0)", x.part(0), 1);
        due("part(1)", x.part(1), 8);
        // three of four at least: 4 by 3/10 missed once, and none missed: (4 * 0.343 * 0.3 + 0.2401)
        due("odds(0, 1, 4, 3)", x.odds(0, 1, 4, 3), 1);
        due("part(0)", x.part(0), 6517);
        due("part(1)", x.part(1), 10000);
        int[][] wrong = {{0, 0, 1, 1}, {2, 0, 1, 1}, {0, -1, 1, 1}, {0, 1, 7, 1}, {0, 1, -1, 1}, {0, 1, 1, 11}, {0, 1, 1, -1}};
        for (int[] w : wrong) due("odds, wrong", x.odds(w[0], w[1], w[2], w[3]), -2);
        due("part(0)", x.part(0), 6517);
        refused(x, 7, 0, 0);
        int[][] rows = {
            // n, c, above, below
            {3, 0, 1, 1}, {6, 10, 0, 1}, {0, 5, 0, 1}, {2, 0, 0, 1}, {6, 0, 1, 1}, {6, 5, 21, 32},
        };
        for (int[] r : rows) {
            x.odds(0, 1, r[0], r[1]);
            due("odds by " + r[1] + " of " + r[0] + ", above", x.part(0), r[2]);
            due("odds by " + r[1] + " of " + r[0] + ", below", x.part(1), r[3]);
        }
        x.odds(0, 1, 0, 0);
        due("digest()", x.digest(), before);
        oddsThatCanNotBe();
    }

    private static void oddsThatCanNotBe() {
        ConkerBouts x = Yards.two(0, 0, 0);
        x.nut(0, 0, 0, 1);
        x.odds(0, 2, 6, 0);
        due("odds of like ones", x.part(0), 0);
        x.strikes(0, 1);
        x.strikes(0, 1);
        x.odds(0, 1, 3, 5);
        due("odds upon a broken one, above", x.part(0), 1);
        due("odds upon a broken one, below", x.part(1), 1);
        x.odds(1, 0, 3, 5);
        due("odds of a broken one", x.part(0), 0);
        ConkerBouts y = Yards.bothBreak();
        y.odds(0, 1, 1, 0);
        due("odds, both", y.part(0), 0);
        ConkerBouts damp = new ConkerBouts();
        damp.player(0, 1);
        damp.player(0, 1);
        damp.nut(0, 0, 9, 9);
        damp.nut(1, 5, 0, 1);
        // a damp one gets 9 in strike 1, 10 in strike 2, if that hits: the number goes by when the first misses
        damp.odds(0, 1, 2, 5);
        due("odds of a damp one, above", damp.part(0), 1);
        due("odds of a damp one, below", damp.part(1), 2);
    }

    private static void promise33() {
        ConkerBouts x = Yards.six();
        long before = x.digest();
        due("days(0, 0)", x.days(0, 0), 0);
        // X 12345: nut 0 upon 0; then 1406932606: nut 0 (of 21468) upon 3 (of 1341)
        due("days(0, 1)", x.days(0, 1), 0);
        due("days(0, 2)", x.days(0, 2), 0);
        due("digest()", x.digest(), before);
        due("days(1000000, 1)", x.days(1000000, 1), -2);
        due("days(-1, 1)", x.days(-1, 1), -2);
        due("days(0, 61)", x.days(0, 61), -2);
        due("days(0, -1)", x.days(0, -1), -2);
        due("days(999999, 60) is as told", x.days(999999, 60), daysOfSix(999999, 60));
        // seeds whose X lies close to where the quotient changes
        due("days(1984, 2)", x.days(1984, 2), 0);
        due("days(15140, 2)", x.days(15140, 2), 1);
        for (int seed = 0; seed < 40; seed++) due("days(" + seed + ", 9)", x.days(seed, 9), daysOfSix(seed, 9));
        x.strikes(3, 1);
        due("days(0, 0)", x.days(0, 0), 1);
        refused(x, 4, 0, 0);
    }

    /** In Yards.six() a nut below 3 breaks when one of 3 to 5 strikes it, and by nothing else. */
    private static int daysOfSix(long x, int n) {
        boolean[] broken = new boolean[3];
        for (int k = 0; k < n; k++) {
            x = (x * 1103515245L + 12345L) & 0x7fffffffL;
            int i = (int) ((x >> 16) % 6), j = (int) ((x >> 20) % 6);
            if (i >= 3 && j < 3) broken[j] = true;
        }
        return (broken[0] ? 1 : 0) + (broken[1] ? 1 : 0) + (broken[2] ? 1 : 0);
    }

    private static void promise34() {
        ConkerBouts x = Yards.two(0, 0, 5);
        due("part(0)", x.part(0), 0);
        due("part(1)", x.part(1), 1);
        due("part(2)", x.part(2), -2);
        due("part(-1)", x.part(-1), -2);
        x.odds(0, 1, 3, 4);
        due("part(0)", x.part(0), 27);
        due("part(1)", x.part(1), 125);
        x.yard(0);
        due("part(0)", x.part(0), 27);
        refused(x, 2, 0, 0);
    }

    private static void promise35() {
        ConkerBouts x = Yards.two(3, 0, 5);
        due("image(2)", x.image(2), -2);
        due("image(-1)", x.image(-1), -2);
        due("image(0)", x.image(0), 1);
        x.waits(1);
        due("image(1)", x.image(1), 1);
        x.waits(1);
        due("image(1)", x.image(1), 1);
        x.yard(50);
        x.from(0);
        due("count(2)", x.count(2), 3);
        x.from(1);
        due("count(2)", x.count(2), 5);
        refused(x, 2, 0, 0);
    }

    private static void promise36() {
        ConkerBouts x = Yards.two(3, 0, 5);
        due("from(2)", x.from(2), -2);
        due("from(-1)", x.from(-1), -2);
        due("from(1)", x.from(1), -3);
        x.strikes(0, 1);
        x.hands(1, 0);
        x.seen(1, 0, 0, 0, 0);
        x.note(1, 0, 0, 0, 0, 0);
        x.mark(1, 1, 1, 0, 2);
        x.image(1);
        long kept = x.digest();
        x.undo();
        x.waits(9);
        x.strikes(0, 1);
        for (int what = 0; what < 3; what++) x.forget(what);
        x.player(2, 2);
        x.nut(2, 2, 2, 2);
        due("from(0)", x.from(0), -3);
        due("from(1)", x.from(1), 1);
        due("digest()", x.digest(), kept);
        due("undo()", x.undo(), 4);
        due("of(1, 0)", x.of(1, 0), 1);
        due("undo()", x.undo(), 3);
        due("of(1, 4)", x.of(1, 4), 0);
        x.yard(0);
        x.type('a');
        x.type('b');
        due("from(1)", x.from(1), 1);
        due("count(10)", x.count(10), 2);
        due("count(9)", x.count(9), 2);
        x.clear();
        due("digest()", x.digest(), kept);
        refused(x, 2, 2, 0);
    }

    private static void promise37() {
        ConkerBouts x = new ConkerBouts();
        due("status(3)", x.status(3), -1);
        due("status(-1)", x.status(-1), -1);
        refused(x, 2, 0, 0);
        x.undo();
        x.count(11);
        for (int n = 0; n < 4; n++) x.player(0, 1);
        x.nut(0, 0, 0, 1);
        refused(x, 3, 1, 1);
        // what is none, not so many or a fault is no refusal; -10 for a wrong number is one
        x.fit(0, 0);
        x.order(0, 9);
        x.pair(0, 1, 9);
        x.read();
        refused(x, 3, 1, 1);
        x.order(1, 0);
        x.pair(0, 0, 0);
        refused(x, 5, 1, 1);
        x.image(0);
        x.yard(0);
        x.from(0);
        refused(x, 5, 1, 1);
    }

    private static void promise38() {
        ConkerBouts x = Yards.six();
        x.strikes(4, 1);
        x.waits(3);
        x.seen(0, 0, 0, 0, 0);
        x.note(0, 0, 0, 0, 0, 0);
        x.note(0, 0, 0, 0, 0, 0);
        for (int n = 0; n < 3; n++) x.mark(0, 1, 1, 0, 0);
        x.type(1);
        int[] counts = {2, 6, 4, 2, 10, 7, 1, 2, 3, 2, 1};
        for (int what = 0; what <= 10; what++) due("count(" + what + ")", x.count(what), counts[what]);
        due("count(11)", x.count(11), -2);
        due("count(-1)", x.count(-1), -2);
        refused(x, 2, 0, 0);
    }

    private static void promise39() {
        ConkerBouts x = new ConkerBouts();
        due("digest()", x.digest(), folded(0, 0, 0, 0, 0, 0, 0, 0, 0, 0, 0, 0, 1));
        x.yard(8);
        x.player(0, 4);
        x.player(5, 1);
        x.nut(0, 0, 9, 5);
        x.nut(1, 1, 2, 3);
        x.strikes(0, 1);
        x.seen(1, 2, 3, 4, 5);
        x.note(0, 6, 7, 8, 9, 10);
        x.mark(1, 2, 3, 4, 5);
        x.type(7);
        x.odds(0, 1, 1, 5);
        // an old nut of hard 2 has 3 by force 9
        due("digest()", x.digest(), folded(2, 2, 9, 0, 3, 2, 1, 1, 1, 1, 1, 0, 4, 5, 1, 0, 0, 9, 5, 0, 1, 1, 1, 2, 3, 3, 1,
            1, 2, 3, 4, 5, 0, 6, 7, 8, 9, 10, 1, 2, 3, 4, 5, 0, 1));
        refused(x, 0, 0, 0);
    }

    private static long folded(long... values) {
        long h = 1823;
        for (long v : values) h = 31 * h + v;
        return h;
    }

    private static final Runnable[] PROMISES = {
        PromisesTest::promise1, PromisesTest::promise2, PromisesTest::promise3, PromisesTest::promise4,
        PromisesTest::promise5, PromisesTest::promise6, PromisesTest::promise7, PromisesTest::promise8,
        PromisesTest::promise9, PromisesTest::promise10, PromisesTest::promise11, PromisesTest::promise12,
        PromisesTest::promise13, PromisesTest::promise14, PromisesTest::promise15, PromisesTest::promise16,
        PromisesTest::promise17, PromisesTest::promise18, PromisesTest::promise19, PromisesTest::promise20,
        PromisesTest::promise21, PromisesTest::promise22, PromisesTest::promise23, PromisesTest::promise24,
        PromisesTest::promise25, PromisesTest::promise26, PromisesTest::promise27, PromisesTest::promise28,
        PromisesTest::promise29, PromisesTest::promise30, PromisesTest::promise31, PromisesTest::promise32,
        PromisesTest::promise33, PromisesTest::promise34, PromisesTest::promise35, PromisesTest::promise36,
        PromisesTest::promise37, PromisesTest::promise38, PromisesTest::promise39,
    };

    public static void main(String[] args) {
        for (int k = 0; k < PROMISES.length; k++) {
            Due.promise(k + 1);
            PROMISES[k].run();
        }
        Due.end();
    }
}
