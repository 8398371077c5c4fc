import java.math.BigInteger;

/** Promises 31 to 34: each sentence that names an edge, by itself. */
public final class ChanceEdgesTest {
    private static void due(String call, long got, long want) {
        Due.due(call, got, want);
    }

    // ---- promise 31: pair

    private static void kOfPair() {
        ConkerBouts x = Yards.six();
        for (int k : new int[] {-2, -10, Edge.LOW}) Edge.badAs(-10, x, "pair(1, 0, " + k + ")", () -> x.pair(1, 0, k));
        Edge.stays(x, "pair(1, 0, -1)", () -> x.pair(1, 0, -1), 9);
        Edge.stays(x, "pair(1, 0, 0)", () -> x.pair(1, 0, 0), 30);
        Edge.stays(x, "pair(1, 0, 8)", () -> x.pair(1, 0, 8), 52);
        for (int k : new int[] {9, 36, Edge.HIGH}) Edge.stays(x, "pair(1, 0, " + k + ")", () -> x.pair(1, 0, k), -5);
    }

    private static void alikeOrNotThere() {
        ConkerBouts x = Yards.six();
        for (int p = 0; p < 2; p++) {
            int one = p;
            Edge.badAs(-10, x, "pair of " + p + " and itself", () -> x.pair(one, one, -1));
        }
        for (int p : new int[] {-1, 2, 3, Edge.LOW, Edge.HIGH}) {
            Edge.badAs(-10, x, "pair(" + p + ", 0, -1)", () -> x.pair(p, 0, -1));
            Edge.badAs(-10, x, "pair(0, " + p + ", -1)", () -> x.pair(0, p, -1));
        }
        Edge.badAs(-10, x, "pair(2, 2, -2)", () -> x.pair(2, 2, -2));
    }

    private static void ownOnesNotBroken() {
        ConkerBouts x = Yards.six();
        x.player(0, 1);
        Edge.stays(x, "pair(0, 2, -1), player 2 has none", () -> x.pair(0, 2, -1), 0);
        Edge.stays(x, "pair(2, 0, -1), player 2 has none", () -> x.pair(2, 0, -1), 0);
        Edge.stays(x, "pair(2, 0, 0)", () -> x.pair(2, 0, 0), -5);
        x.strikes(4, 0);
        x.strikes(4, 2);
        // nut 1 alone is left to player 0
        due("pair(1, 0, -1)", x.pair(1, 0, -1), 3);
        for (int k = 0; k < 3; k++) due("pair(1, 0, " + k + ")", x.pair(1, 0, k), 31 + 10 * k);
        x.strikes(4, 1);
        Edge.stays(x, "pair(1, 0, -1), all BROKEN", () -> x.pair(1, 0, -1), 0);
        Edge.stays(x, "pair(1, 0, 0), all BROKEN", () -> x.pair(1, 0, 0), -5);
    }

    private static void rising() {
        ConkerBouts x = Yards.six();
        for (int k = 0; k < 9; k++) {
            due("pair(1, 0, " + k + ")", x.pair(1, 0, k), 10 * (3 + k / 3) + k % 3);
            due("pair(0, 1, " + k + ")", x.pair(0, 1, k), 10 * (k / 3) + 3 + k % 3);
        }
    }

    /** Three for the SCORE less three cracks are as good as nothing at all: neither would get more by the other nut. */
    private static void threeForEachScore() {
        for (int hard = 2; hard <= 4; hard++) {
            // force 13 upon a baked nut of hard 5 is ten; half of it is 6: nut 0 gets 6 less its hard
            int[][] nuts = {{0, 0, hard, 9}, {0, 0, 9, 1}, {1, 2, 5, 1}};
            ConkerBouts x = Yards.of(0, new int[][] {{0, 4}, {0, 1}}, nuts);
            due("crack(0, 2, 0)", x.crack(0, 2, 0), 10);
            due("crack(0, 2, 1)", x.crack(0, 2, 1), 6 - hard);
            due("bout(1, 2, 0)", x.bout(1, 2, 0), -1);
            due("pair(0, 1, -1), hard " + hard, x.pair(0, 1, -1), hard == 3 ? 2 : 1);
            due("pair(0, 1, 0), hard " + hard, x.pair(0, 1, 0), hard == 2 ? 12 : 2);
        }
    }

    /** Nuts 3 and 1 as LeftEdgesTest tells them: nut 3 breaks soon, by three cracks more; nut 1 gets two in 35, two in 77. */
    private static void sixtyAtMostWithinAPair() {
        int[][] nuts = {{0, 0, 9, 3}, {1, 3, 9, 1}, {2, 0, 9, 9}, {1, 1, 4, 1}};
        ConkerBouts x = Yards.of(12, new int[][] {{5, 1}, {0, 1}, {0, 9}}, nuts);
        for (int n = 0; n < 3; n++) x.strikes(2, 1);
        x.strikes(2, 3);
        // 77 would be strike 61: less two for nut 1, less three for nut 3
        due("pair(0, 1, -1)", x.pair(0, 1, -1), 1);
        due("pair(0, 1, 0)", x.pair(0, 1, 0), 1);
        x.waits(1);
        // 77 is strike 60: less four for nut 1
        due("pair(1, 0, -1)", x.pair(1, 0, -1), 1);
        due("pair(1, 0, 0)", x.pair(1, 0, 0), 30);
    }

    /**
     * Forces are 3, 9, 5 and 6. 0 and 2 get nothing; 0 breaks by 3's tenth answer, which gets 3; 1 breaks by 2, which gets
     * 3 less 6; 3 breaks by 1, which gets 3 less 8. So 2 gives way to 3, 0 to 1, 3 to 2, and 1 to 0: none rests.
     */
    private static void noneRests() {
        int[][] nuts = {{0, 0, 5, 1}, {0, 0, 2, 7}, {1, 0, 6, 2}, {1, 0, 3, 3}};
        ConkerBouts x = Yards.of(0, new int[][] {{0, 2}, {0, 3}}, nuts);
        int[][] bouts = {{0, 2, -1, -1}, {0, 3, 20, 3}, {1, 2, 4, 2}, {1, 3, 3, 1}};
        for (int[] b : bouts) {
            due("bout(" + b[0] + ", " + b[1] + ", 0)", x.bout(b[0], b[1], 0), b[2]);
            due("bout(" + b[0] + ", " + b[1] + ", 1)", x.bout(b[0], b[1], 1), b[3]);
        }
        due("pair(0, 1, -1)", x.pair(0, 1, -1), 0);
        due("pair(0, 1, 0)", x.pair(0, 1, 0), -5);
    }

    // ---- promise 32: odds

    private static void isFraction(ConkerBouts x, String call, long above, long below) {
        due(call + ", above", x.part(0), above);
        due(call + ", below", x.part(1), below);
    }

    private static void nAndC() {
        ConkerBouts x = Yards.two(0, 0, 5);
        x.odds(0, 1, 3, 5);
        for (int n : new int[] {-1, 7, Edge.LOW, Edge.HIGH}) Edge.bad(x, "odds(0, 1, " + n + ", 1)", () -> x.odds(0, 1, n, 1));
        for (int c : new int[] {-1, 11, Edge.LOW, Edge.HIGH}) Edge.bad(x, "odds(0, 1, 1, " + c + ")", () -> x.odds(0, 1, 1, c));
        isFraction(x, "odds that were refused", 1, 8);
        due("odds(0, 1, 0, 0)", x.odds(0, 1, 0, 0), 1);
        isFraction(x, "no strike", 0, 1);
        due("odds(0, 1, 6, 10)", x.odds(0, 1, 6, 10), 1);
        isFraction(x, "all six miss", 0, 1);
        due("odds(0, 1, 6, 0)", x.odds(0, 1, 6, 0), 1);
        isFraction(x, "none of six misses", 1, 1);
    }

    private static void alikeNuts() {
        ConkerBouts x = Yards.two(0, 0, 5);
        x.odds(0, 1, 3, 5);
        for (int i = 0; i < 2; i++) {
            int one = i;
            Edge.bad(x, "odds of " + i + " and itself", () -> x.odds(one, one, 1, 1));
        }
        for (int i : new int[] {-1, 2, 6, Edge.LOW, Edge.HIGH}) {
            Edge.bad(x, "odds(" + i + ", 0, 1, 1)", () -> x.odds(i, 0, 1, 1));
            Edge.bad(x, "odds(0, " + i + ", 1, 1)", () -> x.odds(0, i, 1, 1));
        }
        isFraction(x, "odds that were refused", 1, 8);
    }

    /** Three hits break it: by two strikes never, by three only if none misses. */
    private static void justEnough() {
        ConkerBouts x = Yards.two(0, 0, 5);
        x.odds(0, 1, 2, 0);
        isFraction(x, "two strikes", 0, 1);
        x.odds(0, 1, 3, 0);
        isFraction(x, "three strikes", 1, 1);
        x.odds(0, 1, 3, 1);
        isFraction(x, "three strikes by 1 of 10", 729, 1000);
        x.odds(0, 1, 3, 9);
        isFraction(x, "three strikes by 9 of 10", 1, 1000);
        x.odds(0, 1, 6, 1);
        // one less a millionth, six times nine and fifteen times 81 of these
        isFraction(x, "six strikes by 1 of 10", 99873, 100000);
        x.odds(0, 1, 6, 9);
        // 20 times 729, 15 times 81, 6 times 9 and 1 of a million are 15850
        isFraction(x, "six strikes by 9 of 10", 317, 20000);
    }

    private static void lowestTerms() {
        ConkerBouts x = Yards.six();
        int[][] rows = {
            // n, c, above, below: the first hit breaks it
            {1, 5, 1, 2}, {1, 2, 4, 5}, {1, 1, 9, 10}, {1, 10, 0, 1}, {1, 0, 1, 1}, {2, 5, 3, 4}, {6, 5, 63, 64}, {6, 2, 15624, 15625},
            {6, 1, 999999, 1000000}, {6, 10, 0, 1},
        };
        for (int[] r : rows) {
            due("odds(3, 0, " + r[0] + ", " + r[1] + ")", x.odds(3, 0, r[0], r[1]), 1);
            isFraction(x, r[0] + " strikes by " + r[1] + " of 10", r[2], r[3]);
        }
    }

    private static void asLongAsTheyCanBe() {
        ConkerBouts x = Yards.six();
        x.odds(0, 1, 6, 0);
        isFraction(x, "of like players", 0, 1);
        x.strikes(3, 0);
        x.odds(0, 3, 6, 5);
        isFraction(x, "of a BROKEN one", 0, 1);
        x.odds(4, 0, 6, 5);
        isFraction(x, "upon a BROKEN one", 1, 1);
        x.odds(4, 0, 0, 10);
        isFraction(x, "upon a BROKEN one, no strike", 1, 1);
        x.strikes(3, 1);
        x.odds(0, 1, 6, 5);
        isFraction(x, "both BROKEN", 0, 1);
    }

    private static void brokenAndTheOtherNot() {
        ConkerBouts x = Yards.bothBreak();
        x.odds(0, 1, 1, 0);
        isFraction(x, "both break", 0, 1);
        x.odds(0, 1, 6, 5);
        isFraction(x, "both break by the first hit", 0, 1);
        ConkerBouts striker = Yards.of(0, new int[][] {{0, 9}, {0, 1}}, new int[][] {{0, 2, 0, 9}, {1, 3, 9, 1}});
        striker.odds(0, 1, 6, 0);
        isFraction(striker, "who strikes breaks", 0, 1);
    }

    /** A damp one gets nine in strike 1 and ten in strike 2: either two hits, or just the second. */
    private static void itsNumberGoesBy() {
        ConkerBouts x = Yards.of(0, new int[][] {{0, 1}, {0, 1}}, new int[][] {{0, 0, 9, 9}, {1, 5, 0, 1}});
        x.odds(0, 1, 2, 3);
        isFraction(x, "from 0", 7, 10);
        x.waits(1);
        x.odds(0, 1, 2, 3);
        // strike 2 breaks it; a miss leaves strike 3, which alone does not
        isFraction(x, "from 1", 7, 10);
        x.odds(0, 1, 1, 3);
        isFraction(x, "from 1, one strike", 7, 10);
        x.waits(1);
        x.odds(0, 1, 1, 3);
        isFraction(x, "from 2, one strike", 0, 1);
        Edge.stays(x, "odds(0, 1, 1, 3), as it was", () -> x.odds(0, 1, 1, 3), 1);
        due("count(2)", x.count(2), 2);
        Yards.waitTill(x, 9999);
        x.odds(0, 1, 2, 5);
        // 9999 stays: nine and nine by both hits alone
        isFraction(x, "from 9999", 1, 4);
    }

    // ---- promise 33: days

    private static void seedAndN() {
        ConkerBouts x = Yards.six();
        for (int seed : new int[] {-1, 1000000, Edge.LOW, Edge.HIGH}) Edge.bad(x, "days(" + seed + ", 1)", () -> x.days(seed, 1));
        for (int n : new int[] {-1, 61, Edge.LOW, Edge.HIGH}) Edge.bad(x, "days(0, " + n + ")", () -> x.days(0, n));
        Edge.stays(x, "days(0, 0)", () -> x.days(0, 0), 0);
        Edge.stays(x, "days(999999, 0)", () -> x.days(999999, 0), 0);
        Edge.stays(x, "days(0, 60)", () -> x.days(0, 60), brokenOfSix(0, 60));
        Edge.stays(x, "days(999999, 60)", () -> x.days(999999, 60), brokenOfSix(999999, 60));
    }

    /** In Yards.six() a nut below 3 breaks when one of 3 to 5 strikes it; else only by its own blows, a crack by each. */
    private static int brokenOfSix(int seed, int n) {
        BigInteger x = BigInteger.valueOf(seed), six = BigInteger.valueOf(6);
        int[] cracks = new int[3];
        for (int k = 0; k < n; k++) {
            x = x.multiply(BigInteger.valueOf(1103515245)).add(BigInteger.valueOf(12345)).mod(BigInteger.TWO.pow(31));
            int i = x.divide(BigInteger.valueOf(65536)).mod(six).intValue();
            int j = x.divide(BigInteger.valueOf(1048576)).mod(six).intValue();
            if (i >= 3 && j < 3) cracks[j] = 10;
            if (i < 3 && j >= 3 && cracks[i] < 10) cracks[i]++;
        }
        int broken = 0;
        for (int c : cracks) if (c == 10) broken++;
        return broken;
    }

    /** X goes round by 2147483648 from the second day on at the latest. */
    private static void whatIsLeftOver() {
        ConkerBouts x = Yards.six();
        for (int seed = 0; seed < 1000000; seed += 3571) {
            due("days(" + seed + ", 4)", x.days(seed, 4), brokenOfSix(seed, 4));
        }
        ConkerBouts y = Yards.six();
        for (int n = 0; n <= 60; n++) due("days(1, " + n + ")", y.days(1, n), brokenOfSix(1, n));
    }

    /** By seed 0 the first X is 12345: nut 0 upon 0; the second 1406932606: 21468 by 6 leaves 0, 1341 by 6 leaves 3. */
    private static void elseANumberGoesBy() {
        int[][] nuts = {{0, 0, 9, 9}, {0, 0, 9, 9}, {0, 0, 9, 9}, {1, 5, 0, 1}};
        for (int t = 0; t < 4; t++) {
            // force 10 upon a damp nut of hard 0: it breaks in an even strike
            ConkerBouts x = Yards.of(t, new int[][] {{0, 1}, {0, 1}}, nuts);
            due("days(0, 1) from " + t, x.days(0, 1), 0);
            due("days(0, 2) from " + t, x.days(0, 2), t % 2 == 0 ? 1 : 0);
        }
    }

    /** Only nut 'strong' breaks nut 'soft', and no other nut any other. */
    private static ConkerBouts oneBreaksOne(int strong, int soft) {
        ConkerBouts x = Yards.of(0, new int[][] {{0, 1}, {0, 1}}, new int[0][]);
        for (int i = 0; i < 6; i++) x.nut(i / 3, 0, i == soft ? 0 : 9, i == strong ? 9 : 1);
        return x;
    }

    /** Where the quotients change: X is 25680 times 65536 and 1605 times 1048576, or one less than 3088 and 193 of them. */
    private static void quotientsAreCut() {
        due("days(501379, 1): 25680 and 1605 by 6 leave 0 and 3", oneBreaksOne(0, 3).days(501379, 1), 1);
        due("days(899870, 1): 3087 and 192 by 6 leave 3 and 0", oneBreaksOne(3, 0).days(899870, 1), 1);
        due("days(501379, 1), the other way round", oneBreaksOne(3, 0).days(501379, 1), 0);
        due("days(899870, 1), the other way round", oneBreaksOne(0, 3).days(899870, 1), 0);
    }

    private static void ifBothAreThere() {
        int[][] three = {{0, 0, 9, 9}, {0, 0, 9, 9}, {1, 0, 0, 1}};
        ConkerBouts x = Yards.of(0, new int[][] {{0, 1}, {0, 1}}, three);
        Edge.stays(x, "days(0, 2), no nut 3", () -> x.days(0, 2), 0);
        x.nut(1, 0, 0, 1);
        Edge.stays(x, "days(0, 2), nut 3 is there", () -> x.days(0, 2), 1);
        x.hands(3, 0);
        Edge.stays(x, "days(0, 2), nut 3 is the same player's", () -> x.days(0, 2), 0);
        // nut 0 is player 1's and would break by its own blow, if it struck a nut 3 that is not there, or is there no more
        ConkerBouts alone = Yards.of(0, new int[][] {{0, 1}, {0, 9}}, new int[][] {{1, 2, 0, 9}});
        Edge.stays(alone, "days(0, 2), no nut but 0", () -> alone.days(0, 2), 0);
        ConkerBouts anew = Yards.six();
        anew.yard(0);
        for (int p = 0; p < 2; p++) anew.player(0, 9);
        anew.nut(0, 2, 0, 9);
        Edge.stays(anew, "days(0, 2), nut 3 was an old yard's", () -> anew.days(0, 2), 0);
        anew.nut(1, 0, 9, 9);
        anew.nut(1, 0, 9, 9);
        anew.nut(1, 0, 9, 9);
        Edge.stays(anew, "days(0, 2), nut 3 is there", () -> anew.days(0, 2), 1);
        ConkerBouts none = new ConkerBouts();
        for (int n : new int[] {0, 1, 60}) Edge.stays(none, "days(5, " + n + ") of no nuts", () -> none.days(5, n), 0);
    }

    private static void howManyAreBroken() {
        ConkerBouts x = Yards.six();
        x.strikes(3, 1);
        x.strikes(3, 2);
        due("days(0, 0), two BROKEN ahead", x.days(0, 0), 2);
        due("days(0, 1)", x.days(0, 1), 2);
        x.strikes(3, 0);
        due("days(0, 60), no strike CAN be", x.days(0, 60), 3);
    }

    // ---- promise 34: part

    private static void whatOfPart() {
        ConkerBouts x = Yards.two(0, 0, 5);
        for (int what : new int[] {-1, 2, Edge.LOW, Edge.HIGH}) Edge.bad(x, "part(" + what + ")", () -> x.part(what));
        Edge.stays(x, "part(0)", () -> x.part(0), 0);
        Edge.stays(x, "part(1)", () -> x.part(1), 1);
    }

    private static void belowAboveNought() {
        ConkerBouts x = Yards.two(0, 0, 5);
        for (int n = 0; n <= 6; n++) {
            for (int c = 0; c <= 10; c++) {
                x.odds(0, 1, n, c);
                long above = x.part(0), below = x.part(1);
                boolean lowest = BigInteger.valueOf(above).gcd(BigInteger.valueOf(below)).longValue() == 1;
                due("lowest terms of " + above + " by " + below, lowest && below > 0 && above >= 0 && above <= below ? 1 : 0, 1);
            }
        }
    }

    private static void staysThroughAll() {
        ConkerBouts x = Yards.two(0, 0, 5);
        x.image(0);
        x.odds(0, 1, 3, 5);
        x.strikes(0, 1);
        x.undo();
        isFraction(x, "behind undo", 1, 8);
        x.from(0);
        isFraction(x, "behind an image of ahead", 1, 8);
        Yards.readText(x, "yard 5;");
        isFraction(x, "behind a yard that was read", 1, 8);
        x.yard(0);
        isFraction(x, "behind a new yard", 1, 8);
    }

    public static void main(String[] args) {
        Edge.holds(31, "PAIR: how many (k = NONE), the k-th. -5: not so many.", ChanceEdgesTest::kOfPair);
        Edge.holds(31, "BAD: -10: alike a, b, too.", ChanceEdgesTest::alikeOrNotThere);
        Edge.holds(31, "name NUTS i, j of their own that are not BROKEN", ChanceEdgesTest::ownOnesNotBroken);
        Edge.holds(31, "the k-th (rising)", ChanceEdgesTest::rising);
        Edge.holds(31, "to each 3 for each SCORE that the own NUT has more then, less 1 for each CRACK that it has more", ChanceEdgesTest::threeForEachScore);
        Edge.holds(31, "for a BOUT of i, j (60 STRIKES at most)", ChanceEdgesTest::sixtyAtMostWithinAPair);
        Edge.holds(31, "(neither would get more by another NUT)", ChanceEdgesTest::noneRests);
        Edge.holds(32, "n (0 .. 6) STRIKES of i upon j", ChanceEdgesTest::nAndC);
        Edge.holds(32, "ODDS is THE FRACTION: 1. BAD: alike, too.", ChanceEdgesTest::alikeNuts);
        Edge.holds(32, "each of which misses by c of 10 (0 .. 10)", ChanceEdgesTest::justEnough);
        Edge.holds(32, "lowest terms", ChanceEdgesTest::lowestTerms);
        Edge.holds(32, "as long as they CAN be", ChanceEdgesTest::asLongAsTheyCanBe);
        Edge.holds(32, "the chance that j is BROKEN then, and i not", ChanceEdgesTest::brokenAndTheOtherNot);
        Edge.holds(32, "(its number goes by, nothing else)", ChanceEdgesTest::itsNumberGoesBy);
        Edge.holds(33, "DAYS by a SEED (0 .. 999999), n (0 .. 60)", ChanceEdgesTest::seedAndN);
        Edge.holds(33, "by 2147483648 what is left over", ChanceEdgesTest::whatIsLeftOver);
        Edge.holds(33, "NUT X by 65536 (cut), by 6 left over, STRIKES NUT X by 1048576 (cut), by 6 left over", ChanceEdgesTest::quotientsAreCut);
        Edge.holds(33, "else a number goes by", ChanceEdgesTest::elseANumberGoesBy);
        Edge.holds(33, "if both are there and it CAN be", ChanceEdgesTest::ifBothAreThere);
        Edge.holds(33, "how many are BROKEN behind them", ChanceEdgesTest::howManyAreBroken);
        Edge.holds(34, "THE FRACTION: above (0), below (1). BAD.", ChanceEdgesTest::whatOfPart);
        Edge.holds(34, "below above 0", ChanceEdgesTest::belowAboveNought);
        Edge.holds(34, "(but for IMAGES, THE TEXT, THE FRACTION, STATUS)", ChanceEdgesTest::staysThroughAll);
        Due.end();
    }
}
