import java.math.BigInteger;

/** Promises 35 to 39: each sentence that names an edge, by itself. */
public final class ThereEdgesTest {
    private static void due(String call, long got, long want) {
        Due.due(call, got, want);
    }

    // ---- promise 35: image

    private static void numberOfAnImage() {
        ConkerBouts x = Yards.two(3, 0, 5);
        for (int i : new int[] {-1, 2, Edge.LOW, Edge.HIGH}) Edge.bad(x, "image(" + i + ")", () -> x.image(i));
        for (int i = 0; i < 2; i++) {
            int one = i;
            Edge.no(x, "from(" + i + ")", () -> x.from(one));
            Edge.stays(x, "image(" + i + ")", () -> x.image(one), 1);
        }
    }

    private static void keptAnew() {
        ConkerBouts x = Yards.two(3, 0, 5);
        x.image(0);
        x.waits(1);
        x.image(1);
        x.waits(1);
        due("image(0) anew", x.image(0), 1);
        x.waits(1);
        due("from(1)", x.from(1), 1);
        due("count(2)", x.count(2), 4);
        due("from(0)", x.from(0), 1);
        due("count(2)", x.count(2), 5);
    }

    /** An image of nothing at all is one, too. */
    private static void imageOfNothing() {
        ConkerBouts x = new ConkerBouts();
        long nothing = x.digest();
        x.image(0);
        x.player(0, 1);
        x.nut(0, 0, 0, 1);
        x.waits(1);
        x.seen(0, 0, 0, 0, 0);
        due("from(0)", x.from(0), 1);
        due("digest()", x.digest(), nothing);
        due("player(0, 1)", x.player(0, 1), 0);
    }

    // ---- promise 36: from

    private static void noneWasKept() {
        ConkerBouts x = Yards.two(3, 0, 5);
        for (int i : new int[] {-1, 2, Edge.LOW, Edge.HIGH}) Edge.bad(x, "from(" + i + ")", () -> x.from(i));
        x.image(1);
        Edge.no(x, "from(0)", () -> x.from(0));
        due("from(1)", x.from(1), 1);
        x.yard(0);
        Edge.no(x, "from(0) behind a yard", () -> x.from(0));
        due("from(1) behind a yard", x.from(1), 1);
    }

    private static void whatMayBeUndoneIsKept() {
        ConkerBouts x = Yards.two(0, 0, 5);
        for (int n = 0; n < 9; n++) x.waits(1);
        x.image(0);
        for (int n = 0; n < 8; n++) x.undo();
        Edge.no(x, "undo()", x::undo);
        // eight others come in their place
        for (int n = 0; n < 8; n++) x.waits(50);
        due("from(0)", x.from(0), 1);
        due("count(9)", x.count(9), 8);
        for (int n = 8; n >= 1; n--) due("undo()", x.undo(), n);
        Edge.no(x, "undo()", x::undo);
        // from is none of those that may be undone, and the image is as it was
        x.from(0);
        due("undo()", x.undo(), 8);
        x.from(0);
        due("count(9)", x.count(9), 8);
        x.player(0, 1);
        x.image(1);
        x.waits(1);
        x.from(1);
        Edge.no(x, "undo() behind an image without any", x::undo);
    }

    private static void allButThese() {
        ConkerBouts x = Yards.six();
        x.strikes(3, 0);
        x.seen(1, 2, 3, 4, 5);
        x.note(1, 2, 3, 4, 5, 6);
        x.mark(1, 2, 3, 4, 5);
        x.image(0);
        long kept = x.digest();
        for (int what = 0; what < 3; what++) x.forget(what);
        // others come in their place
        x.seen(0, 9, 9, 9, 9);
        x.note(0, 9, 9, 9, 9, 9);
        x.mark(0, 9, 9, 9, 9);
        x.strikes(4, 1);
        Yards.readText(x, "yard 5;player 3 3;");
        x.clear();
        due("from(0)", x.from(0), 1);
        due("digest()", x.digest(), kept);
        due("hards(1)", x.hards(1), 0);
        due("undo()", x.undo(), 0);
        due("of(0, 4)", x.of(0, 4), 0);
    }

    private static void notKept() {
        ConkerBouts x = Yards.six();
        x.type('a');
        x.image(0);
        x.type('b');
        x.odds(3, 0, 1, 5);
        x.undo();
        x.image(1);
        due("from(0)", x.from(0), 1);
        due("count(10)", x.count(10), 2);
        due("part(1)", x.part(1), 2);
        due("status(1)", x.status(1), 1);
        due("from(1), which the other does not keep", x.from(1), 1);
    }

    /** What happens behind an image, or behind from, does not change the image. */
    private static void imagesStandApart() {
        ConkerBouts x = Yards.two(0, 0, 5);
        x.image(0);
        long kept = x.digest();
        for (int round = 0; round < 2; round++) {
            x.strikes(0, 1);
            x.hands(1, 0);
            x.seen(0, 0, 0, 0, 0);
            x.nut(0, 0, 0, 1);
            due("from(0)", x.from(0), 1);
            due("digest()", x.digest(), kept);
        }
    }

    // ---- promise 37: status

    private static void whatOfStatus() {
        ConkerBouts x = new ConkerBouts();
        int bad = 0;
        for (int what : new int[] {-1, 3, Edge.LOW, Edge.HIGH}) {
            due("status(" + what + ")", x.status(what), -1);
            bad++;
            due("status(0)", x.status(0), bad);
        }
        due("status(1)", x.status(1), 0);
        due("status(2)", x.status(2), 0);
    }

    private static void eachAnswerToldSo() {
        ConkerBouts x = Yards.two(0, 0, 5);
        Edge.badAs(-10, x, "order(2, 0)", () -> x.order(2, 0));
        Edge.badAs(-10, x, "pair(0, 0, 0)", () -> x.pair(0, 0, 0));
        Edge.badAs(-1, x, "status(3)", () -> x.status(3));
        Edge.no(x, "rank(2)", () -> x.rank(2));
        Edge.bad(x, "part(2)", () -> x.part(2));
    }

    /** Answers that are negative and yet no refusals. */
    private static void othersDoNotCount() {
        ConkerBouts x = Yards.two(0, 0, 9);
        x.seen(1, 0, 0, 0, 1);
        x.note(1, 0, 0, 0, 0, 1);
        x.mark(1, 1, 1, 0, 0);
        Edge.stays(x, "order(0, 9)", () -> x.order(0, 9), -5);
        Edge.stays(x, "pair(0, 1, 9)", () -> x.pair(0, 1, 9), -5);
        Edge.stays(x, "lasts(0, 1, 0)", () -> x.lasts(0, 1, 0), -1);
        Edge.stays(x, "bout(0, 1, 0)", () -> x.bout(0, 1, 0), -1);
        Edge.stays(x, "firm(0, 1)", () -> x.firm(0, 1), -1);
        Edge.stays(x, "fit(0, 0)", () -> x.fit(0, 0), -1);
        Edge.stays(x, "tell(1)", () -> x.tell(1), -1);
        Edge.stays(x, "look(1)", () -> x.look(1), -1);
        Edge.stays(x, "ask(1)", () -> x.ask(1), -1);
        Edge.stays(x, "read()", x::read, -10);
    }

    /** An object's 512 calls, all but the last two refused. */
    private static void allCallsOfAnObject() {
        ConkerBouts x = new ConkerBouts();
        for (int n = 0; n < 170; n++) {
            due("yard(-1)", x.yard(-1), -2);
            due("undo()", x.undo(), -3);
            due("from(0)", x.from(0), -3);
        }
        due("status(0)", x.status(0), 170);
        due("status(1)", x.status(1), 340);
    }

    // ---- promise 38: count

    private static void whatOfCount() {
        ConkerBouts x = Yards.six();
        for (int what : new int[] {-1, 11, Edge.LOW, Edge.HIGH}) Edge.bad(x, "count(" + what + ")", () -> x.count(what));
        for (int what = 0; what <= 10; what++) {
            int one = what;
            int[] counts = {2, 6, 0, 0, 0, 6, 0, 0, 0, 0, 0};
            Edge.stays(x, "count(" + what + ")", () -> x.count(one), counts[what]);
        }
    }

    private static void allAtTheirMost() {
        ConkerBouts x = Yards.six();
        x.player(0, 1);
        for (int n = 0; n < 151; n++) x.type(' ');
        for (int n = 0; n < 7; n++) {
            x.seen(0, 0, 0, 0, 0);
            x.note(0, 0, 0, 0, 0, 0);
            x.mark(0, 1, 1, 0, 0);
        }
        Yards.waitTill(x, 9999);
        for (int j = 0; j < 3; j++) x.strikes(3, j);
        int[] counts = {3, 6, 9999, 7, 30, 9, 5, 6, 6, 8, 150};
        for (int what = 0; what <= 10; what++) due("count(" + what + ")", x.count(what), counts[what]);
    }

    /** All six BROKEN, by pairs that break each other: sixty cracks, and the scores stay. */
    private static void allBroken() {
        ConkerBouts x = Yards.of(0, new int[][] {{0, 9}, {0, 9}}, new int[0][]);
        for (int i = 0; i < 6; i++) x.nut(i % 2, 2, 0, 9);
        for (int i = 0; i < 6; i += 2) due("strikes(" + i + ", " + (i + 1) + ")", x.strikes(i, i + 1), 10);
        due("count(3)", x.count(3), 63);
        due("count(4)", x.count(4), 60);
        due("count(5)", x.count(5), 6);
        due("days(0, 0)", x.days(0, 0), 6);
    }

    // ---- promise 39: digest

    private static long folded(long... values) {
        BigInteger h = BigInteger.valueOf(1823);
        for (long v : values) h = h.multiply(BigInteger.valueOf(31)).add(BigInteger.valueOf(v));
        // a long goes round: what is left by 64 bits
        return h.longValue();
    }

    private static void digestOfNothing() {
        due("digest()", new ConkerBouts().digest(), folded(0, 0, 0, 0, 0, 0, 0, 0, 0, 0, 0, 0, 1));
    }

    private static void digestInOrder() {
        ConkerBouts x = Yards.of(8, new int[][] {{0, 4}, {5, 1}}, new int[][] {{0, 0, 9, 5}, {1, 1, 2, 3}});
        x.strikes(0, 1);
        x.seen(1, 2, 3, 4, 5);
        x.seen(0, 99, 9, 44, 60);
        x.note(0, 6, 7, 8, 9, 10);
        x.mark(1, 2, 3, 4, 5);
        x.type(7);
        x.odds(0, 1, 1, 5);
        due("digest()", x.digest(), folded(2, 2, 9, 0, 3, 2, 2, 1, 1, 1, 1, 0, 4, 5, 1, 0, 0, 9, 5, 0, 1, 1, 1, 2, 3, 3, 1,
            1, 2, 3, 4, 5, 0, 99, 9, 44, 60, 0, 6, 7, 8, 9, 10, 1, 2, 3, 4, 5, 0, 1));
        // rows that were forgotten are not in it
        for (int what = 0; what < 3; what++) x.forget(what);
        due("digest()", x.digest(), folded(2, 2, 9, 0, 3, 2, 0, 0, 0, 1, 1, 0, 4, 5, 1, 0, 0, 9, 5, 0, 1, 1, 1, 2, 3, 3, 1, 0, 1));
    }

    /** The greatest state there is: three players, six nuts, all rows. */
    private static void digestOfTheMost() {
        ConkerBouts x = Yards.six();
        x.player(5, 9);
        for (int n = 0; n < 5; n++) x.seen(5, 99, 9, 44, 60);
        for (int n = 0; n < 6; n++) x.note(5, 9, 99, 9, 44, 60);
        for (int n = 0; n < 6; n++) x.mark(2, 9, 9, 99, 60);
        x.odds(3, 0, 6, 1);
        long[] values = new long[11 + 6 + 36 + 25 + 36 + 30 + 2];
        int at = 0;
        for (int v : new int[] {3, 6, 0, 0, 0, 6, 5, 6, 6, 0, 0, 0, 1, 0, 9, 5, 9}) values[at++] = v;
        for (int i = 0; i < 3; i++) for (int v : new int[] {0, 0, 0, 1, 0, 1}) values[at++] = v;
        for (int i = 0; i < 3; i++) for (int v : new int[] {1, 0, 9, 9, 0, 1}) values[at++] = v;
        for (int n = 0; n < 5; n++) for (int v : new int[] {5, 99, 9, 44, 60}) values[at++] = v;
        for (int n = 0; n < 6; n++) for (int v : new int[] {5, 9, 99, 9, 44, 60}) values[at++] = v;
        for (int n = 0; n < 6; n++) for (int v : new int[] {2, 9, 9, 99, 60}) values[at++] = v;
        values[at++] = 999999;
        values[at++] = 1000000;
        due("how many values", at, values.length);
        Edge.stays(x, "digest()", x::digest, folded(values));
    }

    public static void main(String[] args) {
        Edge.holds(35, "An IMAGE is kept: 1. BAD.", ThereEdgesTest::numberOfAnImage);
        Edge.holds(35, "IMAGES 0, 1 keep all", ThereEdgesTest::keptAnew);
        Edge.holds(35, "An IMAGE is kept", ThereEdgesTest::imageOfNothing);
        Edge.holds(36, "BAD; NO: none was kept.", ThereEdgesTest::noneWasKept);
        Edge.holds(36, "what may be undone they keep", ThereEdgesTest::whatMayBeUndoneIsKept);
        Edge.holds(36, "it goes on from one", ThereEdgesTest::allButThese);
        Edge.holds(36, "keep all but them, THE TEXT, THE FRACTION and STATUS", ThereEdgesTest::notKept);
        Edge.holds(36, "It goes on from an IMAGE: 1.", ThereEdgesTest::imagesStandApart);
        Edge.holds(37, "-1: another what (counts as BAD).", ThereEdgesTest::whatOfStatus);
        Edge.holds(37, "(where others are told they count as these)", ThereEdgesTest::eachAnswerToldSo);
        Edge.holds(37, "(each answer told so below is such a one)", ThereEdgesTest::othersDoNotCount);
        Edge.holds(37, "An object is used for at most 512 calls", ThereEdgesTest::allCallsOfAnObject);
        Edge.holds(38, "10 bytes of THE TEXT. BAD.", ThereEdgesTest::whatOfCount);
        Edge.holds(38, "9 that may be undone", ThereEdgesTest::allAtTheirMost);
        Edge.holds(38, "3 BROKEN (bits), 4 CRACKS of all together, 5 SCORES of all together", ThereEdgesTest::allBroken);
        Edge.holds(39, "h = 1823; then h = 31 h + v for each v", ThereEdgesTest::digestOfNothing);
        Edge.holds(39, "of SEEN i, t, c, f, x; of NOTES i, h, t, c, f, x; of MARKS p, a, w, t, x; THE FRACTION.", ThereEdgesTest::digestInOrder);
        Edge.holds(39, "count(0) to count(10); of PLAYERS KIND, ARM; of NUTS what of() tells for 0 to 5", ThereEdgesTest::digestOfTheMost);
        Due.end();
    }
}
