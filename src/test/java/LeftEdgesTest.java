/** Promises 14 to 20: each sentence that names an edge, by itself. */
public final class LeftEdgesTest {
    private interface OfTwo {
        long ask(ConkerBouts x, int i, int j);
    }

    private static void due(String call, long got, long want) {
        Due.due(call, got, want);
    }

    /** None, if it CAN not be: of like players, of a BROKEN one, upon a BROKEN one, both BROKEN. */
    private static void noneIfItCanNotBe(String call, OfTwo asked) {
        ConkerBouts x = Yards.six();
        Edge.stays(x, call + " of like players", () -> asked.ask(x, 0, 1), -1);
        x.strikes(3, 0);
        Edge.stays(x, call + " upon a BROKEN one", () -> asked.ask(x, 4, 0), -1);
        Edge.stays(x, call + " of a BROKEN one", () -> asked.ask(x, 0, 4), -1);
        ConkerBouts y = Yards.bothBreak();
        y.strikes(0, 1);
        Edge.stays(y, call + ", both BROKEN", () -> asked.ask(y, 0, 1), -1);
    }

    private static void badIfAlikeOrNotThere(String call, OfTwo asked) {
        ConkerBouts x = Yards.two(0, 0, 0);
        Edge.bad(x, call + " of 0 and 0", () -> asked.ask(x, 0, 0));
        Edge.bad(x, call + " of 1 and 1", () -> asked.ask(x, 1, 1));
        for (int i : new int[] {-1, 2, 6, Edge.LOW, Edge.HIGH}) {
            Edge.bad(x, call + " of " + i + " and 0", () -> asked.ask(x, i, 0));
            Edge.bad(x, call + " of 0 and " + i, () -> asked.ask(x, 0, i));
        }
        ConkerBouts y = Yards.bothBreak();
        y.strikes(0, 1);
        Edge.bad(y, call + " of a BROKEN one and itself", () -> asked.ask(y, 1, 1));
    }

    /**
     * Nut 0 is a wild player's, forces 4, 8 and, when t by 21 leaves 14 over, 16: by that alone nut 1, pickled and hard 9,
     * gets cracks, two each time; nut 3, old and hard 4, gets two by 8. Nut 1 has six cracks ahead, nut 3 seven; the number is 16.
     */
    private static ConkerBouts seldomBlows() {
        int[][] nuts = {{0, 0, 9, 3}, {1, 3, 9, 1}, {2, 0, 9, 9}, {1, 1, 4, 1}};
        ConkerBouts x = Yards.of(12, new int[][] {{5, 1}, {0, 1}, {0, 9}}, nuts);
        for (int n = 0; n < 3; n++) x.strikes(2, 1);
        x.strikes(2, 3);
        return x;
    }

    private static void seldomBlowsAreAsTold() {
        ConkerBouts x = seldomBlows();
        due("of(1, 4)", x.of(1, 4), 6);
        due("of(3, 4)", x.of(3, 4), 7);
        due("of(2, 4)", x.of(2, 4), 0);
        due("count(2)", x.count(2), 16);
    }

    // ---- promise 14: crack

    private static void whatOfACrack() {
        ConkerBouts x = Yards.two(0, 0, 5);
        for (int what : new int[] {-1, 2, Edge.LOW, Edge.HIGH}) Edge.bad(x, "crack(0, 1, " + what + ")", () -> x.crack(0, 1, what));
        Edge.stays(x, "crack(0, 1, 0)", () -> x.crack(0, 1, 0), 4);
        Edge.stays(x, "crack(0, 1, 1)", () -> x.crack(0, 1, 1), 0);
        Edge.bad(x, "crack(0, 0, 2)", () -> x.crack(0, 0, 2));
    }

    private static void behindTheNextStrike() {
        ConkerBouts x = Yards.bothBreak();
        due("crack(0, 1, 0), ten at most", x.crack(0, 1, 0), 10);
        due("crack(0, 1, 1), ten at most", x.crack(0, 1, 1), 10);
        ConkerBouts damp = Yards.two(0, 5, 5);
        due("crack(0, 1, 0) in strike 1", damp.crack(0, 1, 0), 3);
        damp.waits(1);
        due("crack(0, 1, 0) in strike 2", damp.crack(0, 1, 0), 4);
        damp.strikes(0, 1);
        due("crack(0, 1, 0), four ahead", damp.crack(0, 1, 0), 7);
        Yards.waitTill(damp, 9999);
        due("crack(0, 1, 0) in strike 9999", damp.crack(0, 1, 0), 7);
    }

    // ---- promise 15: lasts

    private static void whatOfLasts() {
        ConkerBouts x = Yards.two(0, 0, 5);
        for (int what : new int[] {-1, 2, Edge.LOW, Edge.HIGH}) Edge.bad(x, "lasts(0, 1, " + what + ")", () -> x.lasts(0, 1, what));
        Edge.stays(x, "lasts(0, 1, 0)", () -> x.lasts(0, 1, 0), 3);
        Edge.stays(x, "lasts(0, 1, 1)", () -> x.lasts(0, 1, 1), 0);
    }

    /** In 35, 56 and 77 nut 1 would get two each; it has six, so that two of these are enough. */
    private static void lastsSixty() {
        ConkerBouts x = seldomBlows();
        due("lasts(0, 1, 0)", x.lasts(0, 1, 0), 40);
        // with four cracks ahead it takes all three
        ConkerBouts y = Yards.of(14, new int[][] {{5, 1}, {0, 1}, {0, 9}}, new int[][] {{0, 0, 9, 3}, {1, 3, 9, 1}, {2, 0, 9, 9}});
        for (int n = 0; n < 2; n++) y.strikes(2, 1);
        for (int what = 0; what <= 1; what++) due("lasts(0, 1, " + what + ") by 61", y.lasts(0, 1, what), -1);
        y.waits(1);
        due("lasts(0, 1, 0) by 60", y.lasts(0, 1, 0), 60);
        due("lasts(0, 1, 1) by 60", y.lasts(0, 1, 1), 0);
        y.waits(1);
        due("lasts(0, 1, 0) by 59", y.lasts(0, 1, 0), 59);
        ConkerBouts never = Yards.two(0, 0, 9);
        for (int what = 0; what <= 1; what++) due("lasts(0, 1, " + what + ") for ever", never.lasts(0, 1, what), -1);
    }

    private static void lastsWhoIsLeft() {
        due("lasts(0, 1, 0), both break", Yards.bothBreak().lasts(0, 1, 0), 1);
        due("lasts(0, 1, 1), neither is left", Yards.bothBreak().lasts(0, 1, 1), -1);
        // nut 0 strikes again and again, and gets a crack by each half of force 2
        due("lasts(0, 3, 0)", Yards.six().lasts(0, 3, 0), 10);
        due("lasts(0, 3, 1), who was struck is left", Yards.six().lasts(0, 3, 1), 3);
        due("lasts(3, 0, 0), at a blow", Yards.six().lasts(3, 0, 0), 1);
        due("lasts(3, 0, 1)", Yards.six().lasts(3, 0, 1), 3);
    }

    // ---- promise 16: bout

    private static void whatOfABout() {
        ConkerBouts x = Yards.two(0, 0, 5);
        for (int what : new int[] {-1, 3, Edge.LOW, Edge.HIGH}) Edge.bad(x, "bout(0, 1, " + what + ")", () -> x.bout(0, 1, what));
        int[] answers = {5, 0, 2};
        for (int what = 0; what <= 2; what++) {
            int one = what;
            Edge.stays(x, "bout(0, 1, " + what + ")", () -> x.bout(0, 1, one), answers[what]);
        }
    }

    /** By turns nut 0 has but every second strike: of 35, 56 and 77 those two in which it is its turn. */
    private static void boutOfSixty() {
        ConkerBouts x = seldomBlows();
        for (int what = 0; what <= 2; what++) due("bout(0, 1, " + what + ") by 61", x.bout(0, 1, what), -1);
        x.waits(1);
        int[] answers = {60, 0, 2};
        for (int what = 0; what <= 2; what++) due("bout(1, 0, " + what + ") by 60", x.bout(1, 0, what), answers[what]);
        // the other way round it is nut 0's turn in 56, and then in 98 only
        for (int what = 0; what <= 2; what++) due("bout(0, 1, " + what + ") by 81", x.bout(0, 1, what), -1);
        x.waits(1);
        due("bout(0, 1, 0) by 59", x.bout(0, 1, 0), 59);
        ConkerBouts never = Yards.two(0, 0, 9);
        for (int what = 0; what <= 2; what++) due("bout(0, 1, " + what + ") for ever", never.bout(0, 1, what), -1);
    }

    private static void boutWhoIsLeft() {
        due("bout(0, 1, 0), both break", Yards.bothBreak().bout(0, 1, 0), 1);
        due("bout(0, 1, 1), neither is left", Yards.bothBreak().bout(0, 1, 1), -1);
        due("bout(0, 1, 2), neither is left", Yards.bothBreak().bout(0, 1, 2), -1);
        ConkerBouts x = Yards.six();
        x.strikes(3, 0);
        x.strikes(3, 2);
        due("bout(3, 1, 2): three and one", x.bout(3, 1, 2), 4);
        due("bout(1, 3, 1)", x.bout(1, 3, 1), 3);
        due("bout(1, 3, 2)", x.bout(1, 3, 2), 4);
    }

    private static void byTurns() {
        ConkerBouts x = Yards.six();
        due("bout(3, 0, 0)", x.bout(3, 0, 0), 1);
        due("bout(0, 3, 0)", x.bout(0, 3, 0), 2);
        due("bout(0, 3, 1)", x.bout(0, 3, 1), 3);
    }

    // ---- promise 17: rank

    private static void kOfRank() {
        ConkerBouts x = Yards.six();
        for (int k : new int[] {-1, -2, Edge.LOW}) Edge.bad(x, "rank(" + k + ")", () -> x.rank(k));
        for (int k : new int[] {6, 7, Edge.HIGH}) Edge.no(x, "rank(" + k + ")", () -> x.rank(k));
        Edge.stays(x, "rank(0)", () -> x.rank(0), 0);
        Edge.stays(x, "rank(5)", () -> x.rank(5), 5);
        ConkerBouts none = new ConkerBouts();
        Edge.no(none, "rank(0) of none", () -> none.rank(0));
        Edge.bad(none, "rank(-1) of none", () -> none.rank(-1));
    }

    private static void ranks(ConkerBouts x, int... nuts) {
        for (int k = 0; k < nuts.length; k++) due("rank(" + k + ")", x.rank(k), nuts[k]);
    }

    /** Nut 2 breaks 0 and is broken by 5, and has SCORE 2 still: behind all that are whole, ahead of 0. */
    private static void brokenBehindAllOthers() {
        ConkerBouts x = Yards.of(0, new int[][] {{0, 9}, {0, 9}}, new int[0][]);
        for (int i = 0; i < 6; i++) x.nut(i % 2, 0, 8, 9);
        ranks(x, 0, 1, 2, 3, 4, 5);
        x.hands(2, 1);
        due("strikes(2, 0)", x.strikes(2, 0), 10);
        ranks(x, 2, 1, 3, 4, 5, 0);
        x.hands(5, 0);
        due("strikes(5, 2)", x.strikes(5, 2), 10);
        due("of(2, 5)", x.of(2, 5), 2);
        due("of(5, 5)", x.of(5, 5), 3);
        ranks(x, 5, 1, 3, 4, 2, 0);
    }

    private static void likeOnesByNumbers() {
        ConkerBouts x = Yards.six();
        x.strikes(5, 2);
        x.strikes(4, 1);
        ranks(x, 4, 5, 0, 3, 1, 2);
        x.strikes(3, 0);
        ranks(x, 3, 4, 5, 0, 1, 2);
    }

    // ---- promise 18: order

    private static void kOfOrder() {
        ConkerBouts x = Yards.six();
        for (int k : new int[] {-3, -10, Edge.LOW}) Edge.badAs(-10, x, "order(3, " + k + ")", () -> x.order(3, k));
        for (int i : new int[] {-1, 6, Edge.LOW, Edge.HIGH}) Edge.badAs(-10, x, "order(" + i + ", -2)", () -> x.order(i, -2));
        Edge.stays(x, "order(3, -2)", () -> x.order(3, -2), 4);
        Edge.stays(x, "order(3, -1)", () -> x.order(3, -1), 0);
        Edge.stays(x, "order(3, 2)", () -> x.order(3, 2), 2);
        for (int k : new int[] {3, 5, 6, Edge.HIGH}) Edge.stays(x, "order(3, " + k + ")", () -> x.order(3, k), -5);
        Edge.badAs(-10, x, "order(6, -3)", () -> x.order(6, -3));
    }

    private static void nobodyToMeet() {
        ConkerBouts x = Yards.two(0, 0, 0);
        for (int n = 0; n < 2; n++) x.strikes(0, 1);
        Edge.stays(x, "order(1, -2) of a BROKEN one", () -> x.order(1, -2), 1);
        Edge.stays(x, "order(1, -1) of a BROKEN one", () -> x.order(1, -1), 10);
        Edge.stays(x, "order(1, 0) of a BROKEN one", () -> x.order(1, 0), -5);
        Edge.stays(x, "order(0, -2), all others BROKEN", () -> x.order(0, -2), 2);
        Edge.stays(x, "order(0, -1), all others BROKEN", () -> x.order(0, -1), 0);
        Edge.stays(x, "order(0, 0), all others BROKEN", () -> x.order(0, 0), -5);
        ConkerBouts alone = Yards.of(0, new int[][] {{0, 1}}, new int[][] {{0, 0, 0, 1}, {0, 0, 0, 1}});
        Edge.stays(alone, "order(0, 0), all its player's", () -> alone.order(0, 0), -5);
        Edge.stays(alone, "order(0, -2), all its player's", () -> alone.order(0, -2), 1);
    }

    /** Five to meet, the most that may be: nut 5 breaks each at a blow. */
    private static void fiveToMeet() {
        ConkerBouts x = Yards.of(0, new int[][] {{0, 1}, {0, 9}}, new int[0][]);
        for (int i = 0; i < 5; i++) x.nut(0, 0, 0, 1);
        x.nut(1, 0, 9, 9);
        due("order(5, -2)", x.order(5, -2), 6);
        due("order(5, -1)", x.order(5, -1), 0);
        for (int k = 0; k < 5; k++) due("order(5, " + k + ")", x.order(5, k), k);
        due("order(5, 5)", x.order(5, 5), -5);
    }

    /** Nut 0 breaks in its first bout, whichever that is: its order names the others still, rising. */
    private static void asLongAsNotBroken() {
        ConkerBouts x = Yards.six();
        due("order(0, -2)", x.order(0, -2), 1);
        due("order(0, -1)", x.order(0, -1), 10);
        for (int k = 0; k < 3; k++) due("order(0, " + k + ")", x.order(0, k), 3 + k);
    }

    /** Nut 1 breaks nut 0 at its first answer, the others never answer: nut 1 comes last, though its number is least. */
    private static void mostScore() {
        int[][] nuts = {{0, 0, 9, 9}, {1, 0, 9, 9}, {2, 0, 0, 1}, {2, 0, 0, 1}};
        ConkerBouts x = Yards.of(0, new int[][] {{0, 2}, {1, 9}, {0, 1}}, nuts);
        due("bout(0, 1, 0)", x.bout(0, 1, 0), 2);
        due("bout(0, 1, 1)", x.bout(0, 1, 1), 1);
        due("bout(0, 2, 0)", x.bout(0, 2, 0), 1);
        due("order(0, -2)", x.order(0, -2), 3);
        int[] order = {2, 3, 1};
        for (int k = 0; k < 3; k++) due("order(0, " + k + ")", x.order(0, k), order[k]);
    }

    /** Nut 1's only answer has force 10 in strike 2, but 6 in strike 3, when nut 2 was met ahead by one blow. */
    private static void fewestCracks() {
        int[][] nuts = {{0, 0, 9, 9}, {1, 0, 9, 4}, {1, 0, 0, 4}};
        ConkerBouts x = Yards.of(0, new int[][] {{0, 9}, {2, 2}}, nuts);
        due("bout(0, 1, 0)", x.bout(0, 1, 0), 3);
        due("crack(1, 0, 0) in strike 1", x.crack(1, 0, 0), 0);
        x.waits(1);
        due("crack(1, 0, 0) in strike 2", x.crack(1, 0, 0), 1);
        x.undo();
        due("order(0, -2)", x.order(0, -2), 3);
        due("order(0, -1)", x.order(0, -1), 0);
        due("order(0, 0)", x.order(0, 0), 2);
        due("order(0, 1)", x.order(0, 1), 1);
    }

    /**
     * The bout with nut 1 never ends: 60 numbers go by. Then nut 2, a tired player's, answers with 21 less a fifth of t,
     * and breaks by its own blow: t is 60 and 2 more than the yard's.
     */
    private static void sixtyAtMostWithinAnOrder() {
        int[] cracks = {1, 1, 0};
        for (int t = 1; t <= 3; t++) {
            int[][] nuts = {{0, 0, 8, 5}, {1, 0, 9, 1}, {2, 0, 0, 9}};
            ConkerBouts x = Yards.of(t, new int[][] {{0, 4}, {0, 1}, {3, 9}}, nuts);
            due("bout(0, 1, 0)", x.bout(0, 1, 0), -1);
            due("order(0, -2) from " + t, x.order(0, -2), 2);
            due("order(0, -1) from " + t, x.order(0, -1), cracks[t - 1]);
            due("order(0, 0) from " + t, x.order(0, 0), 1);
            due("order(0, 1) from " + t, x.order(0, 1), 2);
        }
    }

    // ---- promise 19: firm

    /** Both strike with force 10, nut 1 is hard 9: it breaks by the tenth blow, when nut 0 has got nine. */
    private static ConkerBouts tenBlows(int hard) {
        return Yards.of(0, new int[][] {{0, 5}, {0, 5}, {0, 5}}, new int[][] {{0, 0, hard, 5}, {1, 0, 9, 5}, {2, 0, 9, 5}});
    }

    private static void hardNine() {
        for (int hard : new int[] {0, 8, 9}) {
            ConkerBouts x = tenBlows(hard);
            Edge.stays(x, "firm(0, 1)", () -> x.firm(0, 1), 9);
            due("of(0, 2)", x.of(0, 2), hard);
        }
    }

    private static void hardNought() {
        ConkerBouts x = Yards.six();
        // half of force 18 leaves nut 3 nine cracks, were it hard 0: it is left
        Edge.stays(x, "firm(3, 0)", () -> x.firm(3, 0), 0);
        ConkerBouts both = Yards.bothBreak();
        Edge.stays(both, "firm(1, 0)", () -> both.firm(1, 0), 0);
        // four and two cracks, were nut 0 hard 0: it has some to spare, but there is no less than 0
        ConkerBouts soft = Yards.two(0, 0, 0);
        Edge.stays(soft, "firm(0, 1)", () -> soft.firm(0, 1), 0);
    }

    /** One crack ahead: were it hard 9, it would be BROKEN by the ninth answer. */
    private static void allElseAsItIs() {
        ConkerBouts x = tenBlows(9);
        due("strikes(2, 0)", x.strikes(2, 0), 1);
        Edge.stays(x, "firm(0, 1), a crack ahead", () -> x.firm(0, 1), -1);
        x.undo();
        Edge.stays(x, "firm(0, 1)", () -> x.firm(0, 1), 9);
    }

    private static void firmNone() {
        ConkerBouts x = Yards.two(0, 0, 9);
        Edge.stays(x, "firm(0, 1), not by 60", () -> x.firm(0, 1), -1);
        ConkerBouts six = Yards.six();
        // nut 0 is hit by 18: not even hard 9 bears two of these, and it does nothing to nut 3
        Edge.stays(six, "firm(0, 3)", () -> six.firm(0, 3), -1);
    }

    /** Who breaks together with the other is not left. */
    private static void firmLeftAlone() {
        // force 18, half is 9: baked, nut 0 gets nine and two more by hard 0, ten by hard 1, nine by hard 2
        ConkerBouts x = Yards.bothBreak();
        Edge.stays(x, "firm(0, 1)", () -> x.firm(0, 1), 2);
    }

    // ---- promise 20: fit

    private static void whatOfFit() {
        ConkerBouts x = Yards.six();
        for (int what : new int[] {-1, 2, Edge.LOW, Edge.HIGH}) Edge.bad(x, "fit(1, " + what + ")", () -> x.fit(1, what));
        for (int p : new int[] {-1, 2, 3, Edge.LOW, Edge.HIGH}) Edge.bad(x, "fit(" + p + ", 0)", () -> x.fit(p, 0));
        Edge.stays(x, "fit(1, 0)", () -> x.fit(1, 0), 30);
        Edge.stays(x, "fit(1, 1)", () -> x.fit(1, 1), 2);
    }

    private static void fitIsNone(String why, ConkerBouts x, int p) {
        for (int what = 0; what <= 1; what++) {
            int one = what;
            Edge.stays(x, "fit(" + p + ", " + what + "), " + why, () -> x.fit(p, one), -1);
        }
    }

    private static void fitNone() {
        fitIsNone("none is left", Yards.six(), 0);
        ConkerBouts x = Yards.six();
        x.player(0, 1);
        fitIsNone("no nuts", x, 2);
        for (int j = 0; j < 3; j++) x.strikes(3, j);
        fitIsNone("all own ones BROKEN", x, 0);
        fitIsNone("all others BROKEN", x, 1);
        fitIsNone("not by 60", Yards.two(0, 0, 9), 0);
        fitIsNone("both break", Yards.bothBreak(), 0);
        fitIsNone("all nuts its own", Yards.of(0, new int[][] {{0, 9}, {0, 1}}, new int[][] {{0, 0, 9, 9}, {0, 0, 0, 1}}), 0);
    }

    private static void fitMostScore() {
        ConkerBouts x = Yards.six();
        x.strikes(5, 2);
        due("fit(1, 0), nut 5 has two", x.fit(1, 0), 50);
        due("fit(1, 1)", x.fit(1, 1), 3);
        x.hands(5, 0);
        // nut 5, of player 0's arm 1 now, is worth two: 3 and 4 break it in the end
        due("fit(1, 1)", x.fit(1, 1), 3);
        due("fit(1, 0)", x.fit(1, 0), 35);
    }

    private static void fitOfLikeOnes() {
        ConkerBouts x = Yards.six();
        due("fit(1, 0)", x.fit(1, 0), 30);
        x.hands(0, 1);
        // 0 is player 1's now, soft and light: 9 and 1 by arm 9
        due("bout(0, 1, 1)", x.bout(0, 1, 1), 0);
        due("fit(1, 0)", x.fit(1, 0), 1);
        x.hands(0, 0);
        x.strikes(3, 0);
        x.strikes(4, 1);
        due("fit(1, 0)", x.fit(1, 0), 32);
        due("fit(1, 1)", x.fit(1, 1), 3);
    }

    /** The own nut strikes first: were it struck first, nut 0 would break. */
    private static void ownOneStrikesFirst() {
        ConkerBouts x = Yards.of(0, new int[][] {{0, 9}, {0, 9}}, new int[][] {{0, 0, 4, 9}, {1, 0, 4, 9}});
        due("bout(0, 1, 1)", x.bout(0, 1, 1), 0);
        due("bout(1, 0, 1)", x.bout(1, 0, 1), 1);
        due("fit(0, 0)", x.fit(0, 0), 1);
        due("fit(1, 0)", x.fit(1, 0), 10);
    }

    private static void cracksLastsAndBouts() {
        Edge.holds(14, "none: it CAN not be", () -> noneIfItCanNotBe("crack", (x, i, j) -> x.crack(i, j, 0)));
        Edge.holds(14, "NONE. BAD: alike, too.", () -> badIfAlikeOrNotThere("crack", (x, i, j) -> x.crack(i, j, 1)));
        Edge.holds(14, "CRACK: CRACKS of j (0), of i (1).", LeftEdgesTest::whatOfACrack);
        Edge.holds(14, "CRACKS of both behind the next STRIKE of i upon j", LeftEdgesTest::behindTheNextStrike);
        Edge.holds(15, "or it CAN not be", () -> noneIfItCanNotBe("lasts", (x, i, j) -> x.lasts(i, j, 0)));
        Edge.holds(15, "NONE. BAD: alike, too.", () -> badIfAlikeOrNotThere("lasts", (x, i, j) -> x.lasts(i, j, 1)));
        Edge.holds(15, "LASTS: how many (0), who is left (1; NONE: neither).", LeftEdgesTest::whatOfLasts);
        Edge.holds(15, "none: not by 60", LeftEdgesTest::lastsSixty);
        Edge.holds(15, "who is left (none: neither)", LeftEdgesTest::lastsWhoIsLeft);
        Edge.holds(16, "or it CAN not be", () -> noneIfItCanNotBe("bout", (x, i, j) -> x.bout(i, j, 0)));
        Edge.holds(16, "NONE. BAD: alike, too.", () -> badIfAlikeOrNotThere("bout", (x, i, j) -> x.bout(i, j, 2)));
        Edge.holds(16, "BOUT: how many (0), who is left (1; NONE: neither), SCORE of that one (2; NONE: neither).", LeftEdgesTest::whatOfABout);
        Edge.holds(16, "STRIKES have numbers", LeftEdgesTest::seldomBlowsAreAsTold);
        Edge.holds(16, "by turns so: likewise", LeftEdgesTest::boutOfSixty);
        Edge.holds(16, "SCORE of who is left", LeftEdgesTest::boutWhoIsLeft);
        Edge.holds(16, "i strikes j, then j strikes i", LeftEdgesTest::byTurns);
    }

    private static void ranksAndOrders() {
        Edge.holds(17, "RANK: the k-th. BAD: k below 0; NO: not so many.", LeftEdgesTest::kOfRank);
        Edge.holds(17, "those BROKEN behind all others", LeftEdgesTest::brokenBehindAllOthers);
        Edge.holds(17, "of like ones by numbers: the k-th", LeftEdgesTest::likeOnesByNumbers);
        Edge.holds(18, "-5: not so many. BAD: -10.", LeftEdgesTest::kOfOrder);
        Edge.holds(18, "it meets all NUTS that it CAN STRIKE now", LeftEdgesTest::nobodyToMeet);
        Edge.holds(18, "of like ones the first (rising)", LeftEdgesTest::fiveToMeet);
        Edge.holds(18, "as long as it is not BROKEN", LeftEdgesTest::asLongAsNotBroken);
        Edge.holds(18, "the order of these by which its SCORE is most then", LeftEdgesTest::mostScore);
        Edge.holds(18, "of like ones so that its CRACKS are fewest", LeftEdgesTest::fewestCracks);
        Edge.holds(18, "one BOUT (60 STRIKES at most) behind the other", LeftEdgesTest::sixtyAtMostWithinAnOrder);
    }

    private static void firmAndFit() {
        Edge.holds(19, "the least HARD (0 .. 9) that i would need", LeftEdgesTest::hardNine);
        Edge.holds(19, "the least HARD (0 .. 9)", LeftEdgesTest::hardNought);
        Edge.holds(19, "all else as it is", LeftEdgesTest::allElseAsItIs);
        Edge.holds(19, "FIRM. NONE.", LeftEdgesTest::firmNone);
        Edge.holds(19, "FIRM. NONE. BAD: alike, too.", () -> badIfAlikeOrNotThere("firm", (x, i, j) -> x.firm(i, j)));
        Edge.holds(19, "or it CAN not be", () -> noneIfItCanNotBe("firm", (x, i, j) -> x.firm(i, j)));
        Edge.holds(19, "so that it is left by a BOUT of i, j", LeftEdgesTest::firmLeftAlone);
        Edge.holds(20, "FIT: 10 i and j (0), SCORE (1). NONE. BAD.", LeftEdgesTest::whatOfFit);
        Edge.holds(20, "of like ones 10 i and j least; none", LeftEdgesTest::fitNone);
        Edge.holds(20, "by whose BOUT i is left with most SCORE", LeftEdgesTest::fitMostScore);
        Edge.holds(20, "of like ones 10 i and j least", LeftEdgesTest::fitOfLikeOnes);
        Edge.holds(20, "the own NUT i and the NUT j", LeftEdgesTest::ownOneStrikesFirst);
    }

    public static void main(String[] args) {
        cracksLastsAndBouts();
        ranksAndOrders();
        firmAndFit();
        Due.end();
    }
}
