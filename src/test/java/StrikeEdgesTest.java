/** Promises 8 to 13: each sentence that names an edge, by itself. */
public final class StrikeEdgesTest {
    private static final int[][] PLAIN_TWO = {{0, 4}, {0, 1}};

    private static void due(String call, long got, long want) {
        Due.due(call, got, want);
    }

    // ---- promise 8: strikes

    private static void unlikePlayersAndNeitherBroken() {
        ConkerBouts x = Yards.six();
        Edge.no(x, "strikes(0, 1) of like players", () -> x.strikes(0, 1));
        Edge.no(x, "strikes(5, 3) of like players", () -> x.strikes(5, 3));
        due("strikes(3, 0)", x.strikes(3, 0), 10);
        Edge.no(x, "strikes(4, 0) upon a BROKEN one", () -> x.strikes(4, 0));
        Edge.no(x, "strikes(0, 4) of a BROKEN one", () -> x.strikes(0, 4));
        x.strikes(3, 1);
        Edge.no(x, "strikes(0, 1), both BROKEN, like players", () -> x.strikes(0, 1));
        ConkerBouts y = Yards.bothBreak();
        y.strikes(0, 1);
        Edge.no(y, "strikes(0, 1), both BROKEN", () -> y.strikes(0, 1));
        Edge.no(y, "strikes(1, 0), both BROKEN", () -> y.strikes(1, 0));
    }

    private static void alikeAndNotThere() {
        ConkerBouts x = Yards.two(0, 0, 0);
        Edge.bad(x, "strikes(0, 0)", () -> x.strikes(0, 0));
        for (int i : new int[] {-1, 2, 5, 6, Edge.LOW, Edge.HIGH}) {
            Edge.bad(x, "strikes(" + i + ", 0)", () -> x.strikes(i, 0));
            Edge.bad(x, "strikes(0, " + i + ")", () -> x.strikes(0, i));
            Edge.bad(x, "strikes(" + i + ", " + i + ")", () -> x.strikes(i, i));
        }
        for (int n = 0; n < 2; n++) x.strikes(0, 1);
        Edge.bad(x, "strikes(1, 1) of a BROKEN one: BAD is ahead of NO", () -> x.strikes(1, 1));
        Edge.bad(x, "strikes(1, 2) of a BROKEN one: BAD is ahead of NO", () -> x.strikes(1, 2));
    }

    private static void tenAtMost() {
        ConkerBouts nine = Yards.two(0, 0, 0);
        due("nine", nine.strikes(0, 1), 9);
        due("count(3) by nine", nine.count(3), 0);
        due("eighteen", nine.strikes(0, 1), 10);
        due("count(3) by eighteen", nine.count(3), 2);
        due("count(4) by eighteen", nine.count(4), 10);
        // forces 10 and 11 upon hard 0
        for (int arm = 5; arm <= 6; arm++) {
            ConkerBouts x = Yards.of(0, new int[][] {{0, arm}, {0, 1}}, new int[][] {{0, 0, 9, 5}, {1, 0, 0, 1}});
            due("by force " + (arm + 5), x.strikes(0, 1), 10);
            due("count(3)", x.count(3), 2);
        }
    }

    private static void numberIsOneMore() {
        ConkerBouts x = Yards.two(99, 0, 9);
        x.strikes(0, 1);
        due("count(2)", x.count(2), 100);
        x.strikes(1, 0);
        due("count(2)", x.count(2), 101);
    }

    /** Damp, hard 5: three by force 9 in an odd strike, four in an even one; 9999 is odd and stays so. */
    private static void numberAtItsEnd() {
        ConkerBouts x = Yards.waitTill(Yards.two(98, 5, 5), 9997);
        due("strike 9998", x.strikes(0, 1), 4);
        due("strike 9999", x.strikes(0, 1), 7);
        due("count(2)", x.count(2), 9999);
        due("undo()", x.undo(), 9998);
        due("strike 9999 again", x.strikes(0, 1), 7);
        due("strike 9999 once more", x.strikes(0, 1), 10);
        ConkerBouts y = Yards.waitTill(Yards.two(99, 5, 5), 9999);
        due("strike 9999", y.strikes(0, 1), 3);
        due("strike 9999", y.strikes(0, 1), 6);
        due("count(2)", y.count(2), 9999);
    }

    private static void justOneIsBroken() {
        ConkerBouts struck = Yards.six();
        struck.strikes(3, 0);
        due("of(3, 5), j alone is BROKEN", struck.of(3, 5), 2);
        due("of(0, 5), j alone is BROKEN", struck.of(0, 5), 1);
        ConkerBouts striker = Yards.of(0, new int[][] {{0, 9}, {0, 1}}, new int[][] {{0, 2, 0, 9}, {1, 3, 9, 1}});
        due("strikes(0, 1)", striker.strikes(0, 1), 2);
        due("of(0, 4), i alone is BROKEN", striker.of(0, 4), 10);
        due("of(1, 5), i alone is BROKEN", striker.of(1, 5), 2);
        due("of(0, 5), i alone is BROKEN", striker.of(0, 5), 1);
        ConkerBouts both = Yards.bothBreak();
        both.strikes(0, 1);
        due("count(3), both", both.count(3), 3);
        due("of(0, 5), both", both.of(0, 5), 1);
        due("of(1, 5), both", both.of(1, 5), 1);
        ConkerBouts neither = Yards.two(0, 0, 0);
        neither.strikes(0, 1);
        due("of(0, 5), neither", neither.of(0, 5), 1);
        due("of(1, 5), neither", neither.of(1, 5), 1);
    }

    /** All five others, one by the other: six is the most that a SCORE can be. */
    private static void allThatItHad() {
        ConkerBouts x = Yards.of(0, new int[][] {{0, 9}, {0, 9}, {0, 9}}, new int[0][]);
        for (int i = 0; i < 6; i++) x.nut(i % 3, 0, 8, 9);
        // force 18 upon hard 8 breaks at a blow, and leaves one crack to who strikes
        for (int i = 0; i < 5; i++) {
            due("strikes(" + (i + 1) + ", " + i + ")", x.strikes(i + 1, i), 10);
            due("of(" + (i + 1) + ", 5)", x.of(i + 1, 5), i + 2);
            due("of(" + i + ", 5)", x.of(i, 5), i + 1);
        }
        due("count(5)", x.count(5), 1 + 2 + 3 + 4 + 5 + 6);
        due("count(3)", x.count(3), 31);
    }

    private static void strikerByHalf() {
        // force 9: half is 4
        int[] byHard = {4, 3, 2, 1, 0, 0};
        for (int hard = 0; hard < byHard.length; hard++) {
            ConkerBouts x = Yards.of(0, PLAIN_TWO, new int[][] {{0, 0, hard, 5}, {1, 0, 9, 1}});
            x.strikes(0, 1);
            due("of(0, 4) by hard " + hard, x.of(0, 4), byHard[hard]);
        }
        // force 1: half is none
        ConkerBouts least = Yards.of(0, new int[][] {{4, 1}, {0, 1}}, new int[][] {{0, 0, 0, 1}, {1, 0, 0, 1}});
        due("strikes(0, 1) by force 1", least.strikes(0, 1), 1);
        due("of(0, 4) by half of 1", least.of(0, 4), 0);
    }

    private static void strikerByItsKind() {
        int[][] rows = {
            // t of the strike, kind of the striker, its hard, its cracks by half of 9, which is 4
            {1, 1, 1, 1}, {1, 1, 3, 0}, {1, 2, 3, 3}, {1, 2, 4, 0}, {1, 3, 0, 2}, {1, 3, 3, 0}, {1, 4, 3, 3}, {1, 4, 4, 0},
            {1, 5, 3, 0}, {2, 5, 3, 1}, {1, 5, 4, 0}, {2, 5, 4, 0},
        };
        for (int[] r : rows) {
            ConkerBouts x = Yards.of(r[0] - 1, PLAIN_TWO, new int[][] {{0, r[1], r[2], 5}, {1, 0, 9, 1}});
            x.strikes(0, 1);
            due("striker of kind " + r[1] + ", hard " + r[2] + " in " + r[0], x.of(0, 4), r[3]);
        }
    }

    /** Hollow ones on both sides get three and all that they had ahead. */
    private static void cracksAhead() {
        ConkerBouts x = Yards.of(0, PLAIN_TWO, new int[][] {{0, 4, 3, 5}, {1, 4, 8, 1}});
        int[] each = {3, 9, 10};
        for (int cracks : each) {
            due("strikes(0, 1)", x.strikes(0, 1), cracks);
            due("of(0, 4)", x.of(0, 4), cracks);
        }
        due("count(5): both are BROKEN", x.count(5), 2);
    }

    private static void byKind(int kind, int[][] rows) {
        for (int[] r : rows) {
            ConkerBouts x = Yards.two(r[0] - 1, kind, r[1]);
            due("kind " + kind + ", hard " + r[1] + ", force 9 in " + r[0], x.strikes(0, 1), r[2]);
        }
    }

    /** Force 2 upon hard 9: less than nothing is none. */
    private static void noneByLess(int kind) {
        for (int t = 0; t < 2; t++) {
            ConkerBouts x = Yards.of(t, PLAIN_TWO, new int[][] {{0, kind, 9, 5}, {1, 0, 9, 1}});
            due("kind " + kind + " by less than its hard", x.strikes(1, 0), 0);
        }
    }

    private static void plainNut() {
        byKind(0, new int[][] {{1, 0, 9}, {1, 8, 1}, {1, 9, 0}, {2, 8, 1}});
        noneByLess(0);
    }

    private static void oldNut() {
        byKind(1, new int[][] {{1, 9, 0}, {1, 8, 0}, {1, 7, 1}, {1, 6, 1}, {1, 5, 2}, {1, 0, 4}});
        noneByLess(1);
    }

    private static void bakedNut() {
        byKind(2, new int[][] {{1, 9, 0}, {1, 8, 3}, {1, 7, 4}, {1, 1, 10}, {1, 0, 10}});
        noneByLess(2);
    }

    private static void pickledNut() {
        byKind(3, new int[][] {{1, 9, 0}, {1, 8, 0}, {1, 7, 1}, {1, 6, 1}, {1, 5, 2}, {1, 4, 2}, {1, 3, 2}, {1, 0, 2}});
        noneByLess(3);
    }

    private static void hollowNut() {
        byKind(4, new int[][] {{1, 9, 0}, {1, 8, 3}, {1, 0, 10}});
        noneByLess(4);
        // forces 9, 8 and 7 by nuts 0, 2 and 3
        ConkerBouts x = Yards.of(0, PLAIN_TWO, new int[][] {{0, 0, 9, 5}, {1, 4, 8, 1}, {0, 0, 9, 4}, {0, 0, 9, 3}});
        due("hollow, none ahead", x.strikes(0, 1), 3);
        due("hollow, three ahead, by force as hard", x.strikes(2, 1), 3);
        due("hollow, three ahead, by less", x.strikes(3, 1), 3);
        due("hollow, three ahead", x.strikes(0, 1), 9);
    }

    private static void dampNut() {
        byKind(5, new int[][] {{1, 9, 0}, {1, 8, 0}, {1, 7, 1}, {2, 9, 0}, {2, 8, 1}, {2, 7, 2}, {99, 7, 1}, {100, 7, 2}});
        noneByLess(5);
    }

    // ---- promise 9: waits

    private static void numbersGoBy() {
        ConkerBouts x = new ConkerBouts();
        for (int n : new int[] {0, -1, 61, Edge.LOW, Edge.HIGH}) Edge.bad(x, "waits(" + n + ")", () -> x.waits(n));
        due("waits(1)", x.waits(1), 1);
        due("waits(60)", x.waits(60), 61);
        due("count(9)", x.count(9), 2);
    }

    private static void waitsAtTheEnd() {
        ConkerBouts x = Yards.waitTill(new ConkerBouts(), 9939);
        due("waits(60)", x.waits(60), 9999);
        due("waits(1)", x.waits(1), 9999);
        due("waits(60)", x.waits(60), 9999);
        due("undo()", x.undo(), 9999);
        due("undo()", x.undo(), 9999);
        due("undo()", x.undo(), 9939);
        due("waits(59)", x.waits(59), 9998);
        due("waits(2)", x.waits(2), 9999);
    }

    // ---- promise 10: hands

    private static void itIsSo() {
        ConkerBouts x = Yards.two(3, 0, 0);
        Edge.no(x, "hands(0, 0)", () -> x.hands(0, 0));
        Edge.no(x, "hands(1, 1)", () -> x.hands(1, 1));
        due("hands(0, 1)", x.hands(0, 1), 0);
        Edge.no(x, "hands(0, 1)", () -> x.hands(0, 1));
        due("hands(0, 0)", x.hands(0, 0), 1);
        due("count(2)", x.count(2), 3);
    }

    private static void brokenOneIsNotHandedOver() {
        ConkerBouts x = Yards.two(0, 0, 0);
        x.strikes(0, 1);
        due("hands(1, 0), nine cracks", x.hands(1, 0), 1);
        due("hands(1, 1)", x.hands(1, 1), 0);
        x.strikes(0, 1);
        Edge.no(x, "hands(1, 0), BROKEN", () -> x.hands(1, 0));
        Edge.no(x, "hands(1, 1), BROKEN and so", () -> x.hands(1, 1));
        Edge.bad(x, "hands(1, 2): BAD is ahead of NO", () -> x.hands(1, 2));
    }

    private static void handsNotThere() {
        ConkerBouts x = Yards.two(0, 0, 0);
        for (int k : new int[] {-1, 2, 3, 6, Edge.LOW, Edge.HIGH}) {
            Edge.bad(x, "hands(" + k + ", 0)", () -> x.hands(k, 0));
            Edge.bad(x, "hands(0, " + k + ")", () -> x.hands(0, k));
        }
    }

    /** The last nut of a player goes, and takes its cracks along. */
    private static void handedOver() {
        ConkerBouts x = Yards.two(0, 0, 0);
        x.strikes(0, 1);
        due("hands(1, 0)", x.hands(1, 0), 1);
        due("who(1, 2)", x.who(1, 2), 0);
        due("who(0, 2)", x.who(0, 2), 3);
        due("of(1, 4)", x.of(1, 4), 9);
        due("of(1, 6): player 0's arm", x.of(1, 6), 5);
        Edge.no(x, "strikes(0, 1)", () -> x.strikes(0, 1));
    }

    // ---- promise 11: undo

    private static void noneMayBe() {
        ConkerBouts x = Yards.two(4, 0, 5);
        Edge.no(x, "undo()", x::undo);
        x.strikes(0, 1);
        due("undo()", x.undo(), 4);
        for (int n = 0; n < 2; n++) Edge.no(x, "undo()", x::undo);
    }

    private static void eightAtMost() {
        ConkerBouts x = new ConkerBouts();
        for (int n = 1; n <= 8; n++) {
            x.waits(1);
            due("count(9)", x.count(9), n);
        }
        for (int n = 9; n <= 20; n++) {
            x.waits(1);
            due("count(9)", x.count(9), 8);
        }
        for (int n = 19; n >= 12; n--) due("undo()", x.undo(), n);
        Edge.no(x, "undo()", x::undo);
        due("count(2)", x.count(2), 12);
        due("waits(1)", x.waits(1), 13);
        due("undo()", x.undo(), 12);
    }

    private static void asAhead() {
        ConkerBouts x = Yards.two(0, 0, 0);
        x.strikes(0, 1);
        long ahead = x.digest();
        x.strikes(0, 1);
        due("of(0, 5)", x.of(0, 5), 2);
        due("undo() of the one that broke it", x.undo(), 1);
        due("digest()", x.digest(), ahead);
        due("count(3)", x.count(3), 0);
        due("strikes(1, 0) of one that is whole again", x.strikes(1, 0), 0);
        x.undo();
        x.hands(1, 0);
        x.waits(9);
        due("undo() of waiting", x.undo(), 1);
        due("of(1, 0)", x.of(1, 0), 0);
        due("undo() of a nut handed over", x.undo(), 1);
        due("digest()", x.digest(), ahead);
        due("undo()", x.undo(), 0);
        due("count(4)", x.count(4), 0);
    }

    private static void whatIsNotUndone() {
        ConkerBouts x = Yards.two(0, 0, 0);
        x.waits(1);
        x.seen(0, 0, 0, 0, 0);
        x.note(0, 0, 0, 0, 0, 0);
        x.mark(0, 1, 1, 0, 0);
        x.type(' ');
        x.odds(0, 1, 2, 5);
        x.image(0);
        due("count(9)", x.count(9), 1);
        due("undo()", x.undo(), 0);
        for (int what = 6; what <= 8; what++) due("count(" + what + ")", x.count(what), 1);
        due("count(10)", x.count(10), 1);
        due("part(1)", x.part(1), 4);
        x.waits(1);
        x.forget(0);
        due("undo()", x.undo(), 0);
        due("count(6)", x.count(6), 0);
    }

    private static void refusedOnesAreNotKept() {
        ConkerBouts x = Yards.two(0, 0, 0);
        x.waits(1);
        x.strikes(0, 0);
        x.waits(61);
        x.hands(0, 0);
        x.yard(100);
        x.read();
        due("count(9)", x.count(9), 1);
        due("undo()", x.undo(), 0);
        Edge.no(x, "undo()", x::undo);
    }

    // ---- promise 12: of

    private static void whatOfANut() {
        ConkerBouts x = Yards.six();
        for (int what : new int[] {-1, 8, Edge.LOW, Edge.HIGH}) Edge.bad(x, "of(0, " + what + ")", () -> x.of(0, what));
        for (int i : new int[] {-1, 6, Edge.LOW, Edge.HIGH}) Edge.bad(x, "of(" + i + ", 0)", () -> x.of(i, 0));
        int[] last = {1, 0, 9, 9, 0, 1, 18, 7};
        for (int what = 0; what <= 7; what++) {
            int one = what;
            Edge.stays(x, "of(5, " + what + ")", () -> x.of(5, one), last[what]);
        }
        ConkerBouts y = Yards.two(0, 0, 0);
        Edge.bad(y, "of(2, 0)", () -> y.of(2, 0));
    }

    private static void setThatItCanStrike() {
        ConkerBouts x = Yards.six();
        x.strikes(3, 0);
        due("of(0, 7) of a BROKEN one", x.of(0, 7), 0);
        due("of(3, 7)", x.of(3, 7), 6);
        x.strikes(3, 1);
        x.strikes(3, 2);
        due("of(3, 7), all others BROKEN", x.of(3, 7), 0);
        ConkerBouts y = Yards.two(0, 0, 0);
        y.hands(1, 0);
        due("of(0, 7), all of one player", y.of(0, 7), 0);
        y.player(0, 1);
        y.nut(2, 0, 0, 1);
        due("of(0, 7)", y.of(0, 7), 4);
        due("of(2, 7)", y.of(2, 7), 3);
    }

    private static int force(int kind, int arm, int weight, int t) {
        ConkerBouts x = Yards.of(Math.min(99, t - 1), new int[][] {{kind, arm}}, new int[][] {{0, 0, 0, weight}});
        return Yards.waitTill(x, t - 1).of(0, 6);
    }

    private static void forces(int kind, int[][] rows) {
        for (int[] r : rows) due("force of kind " + kind + ", " + r[0] + " and " + r[1] + " in " + r[2], force(kind, r[0], r[1], r[2]), r[3]);
    }

    private static void strongPlayer() {
        forces(0, new int[][] {{1, 1, 1, 2}, {9, 9, 1, 18}, {4, 5, 14, 9}});
        forces(1, new int[][] {{1, 1, 1, 5}, {9, 9, 1, 21}, {4, 5, 14, 12}});
    }

    private static void slyPlayer() {
        forces(2, new int[][] {{4, 5, 1, 9}, {4, 5, 2, 13}, {4, 5, 3, 9}, {4, 5, 4, 9}, {4, 5, 5, 13}, {4, 5, 101, 13}, {4, 5, 9998, 13}, {4, 5, 9999, 9}});
    }

    private static void tiredPlayer() {
        forces(3, new int[][] {{1, 1, 4, 5}, {1, 1, 5, 4}, {1, 1, 9, 4}, {1, 1, 10, 3}, {1, 1, 20, 1}, {1, 1, 24, 1}, {1, 1, 25, 1}, {1, 1, 100, 1}});
        forces(3, new int[][] {{9, 9, 99, 2}, {9, 9, 100, 1}, {9, 9, 105, 1}, {9, 9, 9999, 1}});
    }

    private static void smallPlayer() {
        forces(4, new int[][] {{1, 1, 1, 1}, {1, 2, 1, 2}, {2, 2, 1, 2}, {9, 8, 1, 9}, {9, 9, 1, 9}});
    }

    private static void wildPlayer() {
        forces(5, new int[][] {{4, 5, 6, 9}, {4, 5, 7, 18}, {4, 5, 8, 13}, {4, 5, 14, 26}, {4, 5, 21, 18}, {9, 9, 14, 44}, {4, 5, 9996, 18}, {4, 5, 9999, 9}});
    }

    /** FORCE is that of the next strike, which at the end is 9999 again; a blow has just this force. */
    private static void forceNext() {
        ConkerBouts x = Yards.of(0, new int[][] {{2, 4}, {0, 1}}, new int[][] {{0, 0, 9, 5}, {1, 0, 9, 1}});
        due("of(0, 6) ahead of strike 1", x.of(0, 6), 9);
        due("strikes(0, 1)", x.strikes(0, 1), 0);
        due("of(0, 6) ahead of strike 2", x.of(0, 6), 13);
        due("strikes(0, 1)", x.strikes(0, 1), 4);
        Yards.waitTill(x, 9999);
        due("of(0, 6) at the end", x.of(0, 6), 9);
        due("strikes(0, 1)", x.strikes(0, 1), 4);
    }

    // ---- promise 13: who

    private static void whatOfAPlayer() {
        ConkerBouts x = Yards.six();
        for (int what : new int[] {-1, 4, Edge.LOW, Edge.HIGH}) Edge.bad(x, "who(0, " + what + ")", () -> x.who(0, what));
        for (int p : new int[] {-1, 2, 3, Edge.LOW, Edge.HIGH}) Edge.bad(x, "who(" + p + ", 0)", () -> x.who(p, 0));
        int[] last = {0, 9, 56, 3};
        for (int what = 0; what <= 3; what++) {
            int one = what;
            Edge.stays(x, "who(1, " + what + ")", () -> x.who(1, one), last[what]);
        }
    }

    private static void nutsNotBroken() {
        ConkerBouts x = Yards.six();
        x.player(0, 1);
        due("who(2, 2), no nuts", x.who(2, 2), 0);
        due("who(2, 3), no nuts", x.who(2, 3), 0);
        x.strikes(3, 0);
        due("who(0, 2)", x.who(0, 2), 6);
        due("who(0, 3)", x.who(0, 3), 2);
        due("who(1, 3)", x.who(1, 3), 4);
        x.strikes(3, 1);
        x.strikes(3, 2);
        due("who(0, 2), all BROKEN", x.who(0, 2), 0);
        due("who(0, 3), all BROKEN", x.who(0, 3), 0);
        due("who(1, 2)", x.who(1, 2), 56);
        due("who(1, 3)", x.who(1, 3), 6);
    }

    private static void strikes() {
        Edge.holds(8, "if they are of unlike PLAYERS and neither is BROKEN", StrikeEdgesTest::unlikePlayersAndNeitherBroken);
        Edge.holds(8, "BAD: alike, too; NO: it CAN not be.", StrikeEdgesTest::alikeAndNotThere);
        Edge.holds(8, "10 at most, what is above is lost: with 10 it is BROKEN", StrikeEdgesTest::tenAtMost);
        Edge.holds(8, "it is one more with each", StrikeEdgesTest::numberIsOneMore);
        Edge.holds(8, "(9999 at most), and that is the t of it", StrikeEdgesTest::numberAtItsEnd);
        Edge.holds(8, "If just one of both is BROKEN then", StrikeEdgesTest::justOneIsBroken);
        Edge.holds(8, "the SCORE of the other is more by that of the BROKEN one", StrikeEdgesTest::allThatItHad);
        Edge.holds(8, "i by half (cut) of that", StrikeEdgesTest::strikerByHalf);
        Edge.holds(8, "each by its KIND", StrikeEdgesTest::strikerByItsKind);
        Edge.holds(8, "with the CRACKS it had ahead", StrikeEdgesTest::cracksAhead);
        Edge.holds(8, "0 PLAIN: f less h, 0 at least", StrikeEdgesTest::plainNut);
        Edge.holds(8, "1 OLD (under PLAIN): half (cut) of PLAIN", StrikeEdgesTest::oldNut);
        Edge.holds(8, "2 BAKED (under PLAIN): PLAIN, 2 more, if f is above h", StrikeEdgesTest::bakedNut);
        Edge.holds(8, "3 PICKLED (under OLD): OLD, 2 at most", StrikeEdgesTest::pickledNut);
        Edge.holds(8, "4 HOLLOW (under BAKED): BAKED, c more, if BAKED is not 0", StrikeEdgesTest::hollowNut);
        Edge.holds(8, "5 DAMP (under PLAIN): PLAIN, 1 less (0 at least), if t is an odd number", StrikeEdgesTest::dampNut);
    }

    private static void waitsHandsAndUndo() {
        Edge.holds(9, "n numbers (1 .. 60) go by: the number then. BAD.", StrikeEdgesTest::numbersGoBy);
        Edge.holds(9, "(9999 at most)", StrikeEdgesTest::waitsAtTheEnd);
        Edge.holds(10, "NO: it is so", StrikeEdgesTest::itIsSo);
        Edge.holds(10, "it is so, BROKEN", StrikeEdgesTest::brokenOneIsNotHandedOver);
        Edge.holds(10, "whose it was. BAD", StrikeEdgesTest::handsNotThere);
        Edge.holds(10, "A NUT is a PLAYER's: whose it was.", StrikeEdgesTest::handedOver);
        Edge.holds(11, "NO: none may be.", StrikeEdgesTest::noneMayBe);
        Edge.holds(11, "(8 at most;", StrikeEdgesTest::eightAtMost);
        Edge.holds(11, "as ahead of the last STRIKE, WAITING, NUT handed over", StrikeEdgesTest::asAhead);
        Edge.holds(11, "whose NUTS are, CRACKS, SCORES, the number of STRIKES", StrikeEdgesTest::whatIsNotUndone);
        Edge.holds(11, "Refused, changing nothing but STATUS", StrikeEdgesTest::refusedOnesAreNotKept);
    }

    public static void main(String[] args) {
        strikes();
        waitsHandsAndUndo();
        Edge.holds(12, "the set (bits) that it CAN STRIKE now (7). BAD.", StrikeEdgesTest::whatOfANut);
        Edge.holds(12, "that it CAN STRIKE now", StrikeEdgesTest::setThatItCanStrike);
        Edge.holds(12, "1 STRONG (under PLAIN): 3 more than PLAIN", StrikeEdgesTest::strongPlayer);
        Edge.holds(12, "2 SLY (under PLAIN): PLAIN, 4 more, if t by 3 leaves 2 over", StrikeEdgesTest::slyPlayer);
        Edge.holds(12, "3 TIRED (under STRONG): STRONG less a fifth (cut) of t, 1 at least", StrikeEdgesTest::tiredPlayer);
        Edge.holds(12, "4 SMALL (under PLAIN): half (cut up) of PLAIN", StrikeEdgesTest::smallPlayer);
        Edge.holds(12, "5 WILD (under SLY): SLY, twice, if 7 divides t", StrikeEdgesTest::wildPlayer);
        Edge.holds(12, "with which its PLAYER would strike with it next", StrikeEdgesTest::forceNext);
        Edge.holds(13, "SCORES of these together (3). BAD.", StrikeEdgesTest::whatOfAPlayer);
        Edge.holds(13, "NUTS not BROKEN (2; bits)", StrikeEdgesTest::nutsNotBroken);
        Due.end();
    }
}
