/** Promises 21 to 30: each sentence that names an edge, by itself. */
public final class HardEdgesTest {
    private interface OfOne {
        long ask(ConkerBouts x, int k);
    }

    private interface ByRow {
        long put(ConkerBouts x, int[] row);
    }

    private static final int[] BEYOND = {Edge.LOW, Edge.HIGH};

    private static void due(String call, long got, long want) {
        Due.due(call, got, want);
    }

    private static long seen(ConkerBouts x, int[] r) {
        return x.seen(r[0], r[1], r[2], r[3], r[4]);
    }

    private static long note(ConkerBouts x, int[] r) {
        return x.note(r[0], r[1], r[2], r[3], r[4], r[5]);
    }

    private static long mark(ConkerBouts x, int[] r) {
        return x.mark(r[0], r[1], r[2], r[3], r[4]);
    }

    /** The least and the most of each number are as told; one less, one more are BAD, the others being as told. */
    private static void bounds(String call, ByRow put, int[] least, int[] most) {
        ConkerBouts x = Yards.two(0, 0, 5);
        due(call + ", each least", put.put(x, least), 1);
        due(call + ", each most", put.put(x, most), 2);
        for (int k = 0; k < least.length; k++) {
            for (int wrong : new int[] {least[k] - 1, most[k] + 1, BEYOND[0], BEYOND[1]}) {
                int[] row = least.clone();
                row[k] = wrong;
                Edge.bad(x, call + ", number " + k + " is " + wrong, () -> put.put(x, row));
            }
        }
    }

    private static void fullAt(String call, ByRow put, int[] row, int most) {
        ConkerBouts x = Yards.two(0, 0, 5);
        for (int n = 1; n <= most; n++) due(call, put.put(x, row), n);
        for (int n = 0; n < 2; n++) Edge.full(x, call + " beyond " + most, () -> put.put(x, row));
        int[] wrong = row.clone();
        wrong[0] = 2;
        Edge.bad(x, call + ": BAD is ahead of FULL", () -> put.put(x, wrong));
    }

    private static void badIfNotThere(String call, OfOne asked) {
        ConkerBouts x = Yards.two(0, 0, 5);
        for (int k : new int[] {-1, 2, 3, 6, BEYOND[0], BEYOND[1]}) Edge.bad(x, call + "(" + k + ")", () -> asked.ask(x, k));
        for (int k = 0; k < 2; k++) {
            int one = k;
            Edge.stays(x, call + "(" + k + ")", () -> asked.ask(x, one), asked.ask(x, k));
        }
    }

    // ---- promise 22: hards

    private static int hardsOf(int kind, int t, int c, int f, int x) {
        ConkerBouts y = Yards.two(0, kind, 5);
        y.seen(1, t, c, f, x);
        return y.hards(1);
    }

    private static void hardsOfNoneSeen() {
        for (int kind = 0; kind < 6; kind++) due("hards(1) of kind " + kind, Yards.two(0, kind, 5).hards(1), 1023);
    }

    private static void bitsNoughtToNine() {
        due("force 0, none", hardsOf(0, 0, 0, 0, 0), 1023);
        due("force 0, one", hardsOf(0, 0, 0, 0, 1), 0);
        due("force 1, one: hard 0", hardsOf(0, 0, 0, 1, 1), 1);
        due("force 1, none: all above 0", hardsOf(0, 0, 0, 1, 0), 1022);
        due("force 9, none: hard 9", hardsOf(0, 0, 0, 9, 0), 512);
        due("force 10, one: hard 9", hardsOf(0, 0, 0, 10, 1), 512);
        due("force 10, none", hardsOf(0, 0, 0, 10, 0), 0);
        due("force 44, 44: hard 0", hardsOf(0, 0, 0, 44, 44), 1);
        due("force 44, 35: hard 9", hardsOf(0, 0, 0, 44, 35), 512);
        due("force 44, 60", hardsOf(0, 0, 0, 44, 60), 0);
    }

    private static void itsKindAsItIs() {
        due("old, force 1, none", hardsOf(1, 0, 0, 1, 0), 1023);
        due("old, force 2, one", hardsOf(1, 0, 0, 2, 1), 1);
        due("baked, force 1, three", hardsOf(2, 0, 0, 1, 3), 1);
        due("baked, force 1, one", hardsOf(2, 0, 0, 1, 1), 0);
        due("pickled, force 44, two", hardsOf(3, 0, 0, 44, 2), 1023);
        due("pickled, force 44, three", hardsOf(3, 0, 0, 44, 3), 0);
        due("hollow, force 44, nine ahead", hardsOf(4, 0, 9, 44, 55), 1);
        due("hollow, force 9, nine ahead, none", hardsOf(4, 0, 9, 9, 0), 512);
        due("damp, force 9 in 0, none", hardsOf(5, 0, 0, 9, 0), 512);
        due("damp, force 9 in 99, none", hardsOf(5, 99, 0, 9, 0), 768);
        due("damp, force 9 in 98, one", hardsOf(5, 98, 0, 9, 1), 256);
    }

    private static void allSeenOfIt() {
        ConkerBouts x = Yards.two(0, 0, 5);
        x.seen(1, 0, 0, 4, 0);
        due("hards(1)", x.hards(1), 1008);
        x.seen(0, 0, 0, 9, 9);
        due("hards(1), another's does not count", x.hards(1), 1008);
        due("hards(0)", x.hards(0), 1);
        x.seen(1, 0, 0, 5, 0);
        x.seen(1, 0, 0, 6, 0);
        due("hards(1)", x.hards(1), 960);
        // the fifth is the last
        x.seen(1, 0, 0, 7, 1);
        due("hards(1)", x.hards(1), 64);
        x.forget(0);
        due("hards(1)", x.hards(1), 1023);
    }

    /** What is seen of a nut is so of it whoever has it, and when it is BROKEN. */
    private static void hardsOfABrokenOne() {
        ConkerBouts x = Yards.two(0, 0, 0);
        x.seen(1, 0, 0, 9, 9);
        for (int n = 0; n < 2; n++) x.strikes(0, 1);
        due("hards(1)", x.hards(1), 1);
        due("tell(1)", x.tell(1), 0);
        due("is(1)", x.is(1), 63);
    }

    // ---- promise 23: tell

    private static void tellOfNoHard() {
        ConkerBouts x = Yards.two(0, 0, 5);
        x.seen(1, 0, 0, 0, 1);
        Edge.stays(x, "tell(1)", () -> x.tell(1), -1);
        Edge.stays(x, "tell(0)", () -> x.tell(0), 90);
        x.forget(0);
        x.seen(1, 0, 0, 9, 9);
        Edge.stays(x, "tell(1), one hard", () -> x.tell(1), 0);
    }

    private static void tellTheLeast() {
        ConkerBouts x = Yards.two(0, 0, 5);
        // 8 and 9 are left: force 9 is the first that parts them
        x.seen(1, 0, 0, 8, 0);
        due("tell(1) of 8 and 9", x.tell(1), 90);
        ConkerBouts old = Yards.two(0, 1, 5);
        old.seen(1, 0, 0, 3, 1);
        due("hards(1)", old.hards(1), 3);
        due("tell(1) of 0 and 1", old.tell(1), 20);
        old.forget(0);
        due("tell(1), old", old.tell(1), 90);
        due("tell(1), pickled", Yards.two(0, 3, 5).tell(1), 70);
        due("tell(1), baked", Yards.two(0, 2, 5).tell(1), 90);
        due("tell(1), hollow", Yards.two(0, 4, 5).tell(1), 90);
    }

    private static void tellInTheNextStrike() {
        ConkerBouts damp = Yards.two(98, 5, 5);
        due("tell(1) ahead of 99", damp.tell(1), 100);
        damp.waits(1);
        due("tell(1) ahead of 100", damp.tell(1), 90);
        Yards.waitTill(damp, 9997);
        due("tell(1) ahead of 9998", damp.tell(1), 90);
        damp.waits(1);
        due("tell(1) ahead of 9999", damp.tell(1), 100);
        damp.waits(1);
        due("tell(1) at the end", damp.tell(1), 100);
    }

    // ---- promise 26: forget

    private static void forgetOne() {
        ConkerBouts x = Yards.two(0, 0, 5);
        for (int what : new int[] {-1, 3, BEYOND[0], BEYOND[1]}) Edge.bad(x, "forget(" + what + ")", () -> x.forget(what));
        for (int what = 0; what < 3; what++) {
            int one = what;
            Edge.stays(x, "forget(" + what + ") of none", () -> x.forget(one), 0);
        }
        for (int n = 0; n < 6; n++) {
            x.seen(0, 0, 0, 0, 0);
            x.note(0, 0, 0, 0, 0, 0);
            x.mark(0, 1, 1, 0, 0);
        }
        int[] were = {5, 6, 6};
        for (int what = 0; what < 3; what++) {
            due("forget(" + what + ")", x.forget(what), were[what]);
            due("count(" + (6 + what) + ")", x.count(6 + what), 0);
            due("forget(" + what + ") again", x.forget(what), 0);
            for (int later = what + 1; later < 3; later++) due("count(" + (6 + later) + ")", x.count(6 + later), were[later]);
        }
        due("seen(1, 99, 9, 44, 60) behind it", x.seen(1, 99, 9, 44, 60), 1);
        due("hards(1)", x.hards(1), 0);
        due("hards(0)", x.hards(0), 1023);
    }

    // ---- promises 27 and 28: is and look

    private static int isOf(int h, int t, int c, int f, int x) {
        ConkerBouts y = Yards.two(0, 0, 5);
        y.note(0, h, t, c, f, x);
        return y.is(0);
    }

    private static void kindsOfNoNotes() {
        ConkerBouts x = Yards.two(0, 0, 5);
        for (int i = 0; i < 2; i++) due("is(" + i + ")", x.is(i), 63);
    }

    private static void isByEdges() {
        due("force 0", isOf(0, 0, 9, 0, 0), 63);
        due("force as hard", isOf(9, 1, 9, 9, 0), 63);
        due("force 1 in 0: plain and damp", isOf(0, 0, 0, 1, 1), 33);
        due("force 1 in 99: plain alone", isOf(0, 99, 0, 1, 1), 1);
        due("force 1 in 1, none: old, pickled, damp", isOf(0, 1, 0, 1, 0), 42);
        due("force 1, three: baked and hollow", isOf(0, 0, 0, 1, 3), 20);
        due("force 1, nine ahead, three: baked", isOf(0, 0, 9, 1, 3), 4);
        due("force 1, nine ahead, twelve: hollow", isOf(0, 0, 9, 1, 12), 16);
        due("force 4, two: old and pickled", isOf(0, 0, 0, 4, 2), 10);
        due("force 6, two: pickled", isOf(0, 0, 0, 6, 2), 8);
        due("force 6, three: old", isOf(0, 0, 0, 6, 3), 2);
        due("force 44, 60", isOf(0, 0, 9, 44, 60), 0);
    }

    private static void allNotesOfOne() {
        ConkerBouts x = Yards.two(0, 0, 5);
        x.note(0, 0, 0, 0, 1, 1);
        due("is(0)", x.is(0), 33);
        due("is(1), another's do not count", x.is(1), 63);
        for (int n = 0; n < 4; n++) x.note(1, 0, 0, 0, 1, 3);
        // the sixth is the last
        x.note(0, 0, 1, 0, 1, 0);
        due("is(0)", x.is(0), 32);
        due("is(1)", x.is(1), 20);
        due("hards(0): notes are not seen ones", x.hards(0), 1023);
        due("kinds(0): notes are not marks", x.kinds(0), 63);
    }

    private static void lookOfNoKind() {
        ConkerBouts x = Yards.two(0, 0, 5);
        x.note(1, 0, 0, 0, 0, 1);
        Edge.stays(x, "look(1)", () -> x.look(1), -1);
        x.forget(1);
        x.note(1, 0, 99, 0, 1, 1);
        Edge.stays(x, "look(1), one kind", () -> x.look(1), 0);
    }

    /** In an odd strike 6 more than hard parts all kinds but baked and hollow ones, and one crack ahead these, too. */
    private static void lookAtItsHard() {
        for (int hard = 0; hard <= 9; hard++) {
            due("look(1), hard " + hard + ", odd", Yards.two(0, 0, hard).look(1), 10 * (hard + 6) + 1);
            // plain and damp ones are alike in an even one; old and pickled, baked and hollow ones may be, too
            due("look(1), hard " + hard + ", even", Yards.two(1, 0, hard).look(1), 10 * (hard + 1));
        }
    }

    private static void lookTheLeast() {
        ConkerBouts x = Yards.two(0, 0, 9);
        x.note(1, 0, 0, 0, 4, 2);
        due("look(1) of old and pickled", x.look(1), 150);
        x.forget(1);
        x.note(1, 0, 0, 0, 1, 3);
        due("look(1) of baked and hollow", x.look(1), 101);
        x.forget(1);
        x.note(1, 0, 0, 0, 1, 1);
        due("look(1) of plain and damp, odd", x.look(1), 100);
        x.waits(1);
        due("look(1) of plain and damp, even", x.look(1), 0);
        Yards.waitTill(x, 9999);
        due("look(1) of plain and damp at the end", x.look(1), 100);
    }

    // ---- promises 29 and 30: kinds and ask

    private static int kindsOf(int a, int w, int t, int x) {
        ConkerBouts y = Yards.two(0, 0, 5);
        y.mark(1, a, w, t, x);
        return y.kinds(1);
    }

    private static void kindsOfNoMarks() {
        ConkerBouts x = Yards.two(0, 0, 5);
        for (int p = 0; p < 2; p++) due("kinds(" + p + ")", x.kinds(p), 63);
    }

    private static void kindsByEdges() {
        due("none", kindsOf(1, 1, 0, 0), 0);
        due("60", kindsOf(9, 9, 98, 60), 0);
        due("in 0: 7 divides it", kindsOf(4, 5, 0, 18), 32);
        due("in 0: plain and sly", kindsOf(4, 5, 0, 9), 5);
        due("in 1: plain, sly and wild", kindsOf(4, 5, 1, 9), 37);
        due("in 2: sly and wild", kindsOf(4, 5, 2, 13), 36);
        due("in 4: strong and tired", kindsOf(4, 5, 4, 12), 10);
        due("in 5: tired", kindsOf(4, 5, 5, 11), 8);
        due("in 99: one at least", kindsOf(4, 5, 99, 1), 8);
        due("small, one", kindsOf(1, 1, 0, 1), 16);
        due("small, nine of seventeen", kindsOf(9, 8, 1, 9), 16);
        due("wild, the most", kindsOf(9, 9, 14, 44), 32);
        due("in 98: wild alone", kindsOf(9, 9, 98, 44), 32);
    }

    private static void allMarksOfOne() {
        ConkerBouts x = Yards.two(0, 0, 5);
        x.mark(0, 4, 5, 1, 9);
        due("kinds(0)", x.kinds(0), 37);
        due("kinds(1), another's do not count", x.kinds(1), 63);
        for (int n = 0; n < 4; n++) x.mark(1, 4, 5, 4, 12);
        // the sixth is the last
        x.mark(0, 4, 5, 2, 13);
        due("kinds(0)", x.kinds(0), 36);
        due("kinds(1)", x.kinds(1), 10);
    }

    private static void askOfNoKind() {
        ConkerBouts x = Yards.two(0, 0, 5);
        x.mark(1, 1, 1, 0, 0);
        Edge.stays(x, "ask(1)", () -> x.ask(1), -1);
        x.forget(2);
        x.mark(1, 4, 5, 5, 11);
        // t 0 and w 1 are the least, for no weight is 0
        Edge.stays(x, "ask(1), one kind", () -> x.ask(1), 1);
    }

    private static void askTheLeast() {
        ConkerBouts x = Yards.two(0, 0, 5);
        x.mark(0, 4, 5, 4, 12);
        due("ask(0) of strong and tired", x.ask(0), 51);
        x.forget(2);
        x.mark(0, 4, 5, 2, 13);
        due("ask(0) of sly and wild: in 0 already", x.ask(0), 1);
        x.forget(2);
        x.mark(0, 4, 5, 0, 9);
        due("ask(0) of plain and sly", x.ask(0), 21);
    }

    /** All six: in 14 alone plain, sly and wild, strong and tired ones are unlike, whatever the arm. */
    private static void askByItsArm() {
        for (int arm = 1; arm <= 9; arm++) {
            ConkerBouts x = Yards.of(50, new int[][] {{0, arm}}, new int[0][]);
            due("ask(0), arm " + arm, x.ask(0), 141);
            x.waits(1);
            due("ask(0), arm " + arm + ", the number does not count", x.ask(0), 141);
        }
    }

    private static void seenAndTold() {
        Edge.holds(21, "a NUT that had c CRACKS (0 .. 9) got x (0 .. 60) by FORCE f (0 .. 44) in STRIKE t (0 .. 99)",
            () -> bounds("seen", HardEdgesTest::seen, new int[] {0, 0, 0, 0, 0}, new int[] {1, 99, 9, 44, 60}));
        Edge.holds(21, "SEEN: how many there are. BAD; FULL: 5.",
            () -> fullAt("seen", HardEdgesTest::seen, new int[] {0, 0, 0, 0, 0}, 5));
        Edge.holds(22, "HARDS, as bits. BAD.", () -> badIfNotThere("hards", ConkerBouts::hards));
        Edge.holds(22, "all SEEN of it are so", HardEdgesTest::hardsOfNoneSeen);
        Edge.holds(22, "HARDS of a NUT (bits 0 to 9)", HardEdgesTest::bitsNoughtToNine);
        Edge.holds(22, "its KIND as it is", HardEdgesTest::itsKindAsItIs);
        Edge.holds(22, "SEEN 0 .. 4, as they come", HardEdgesTest::allSeenOfIt);
        Edge.holds(22, "HARDS of a NUT", HardEdgesTest::hardsOfABrokenOne);
        Edge.holds(23, "TELL. NONE. BAD.", () -> badIfNotThere("tell", ConkerBouts::tell));
        Edge.holds(23, "none: no HARD", HardEdgesTest::tellOfNoHard);
        Edge.holds(23, "by which it gets as many are fewest; of like ones the least", HardEdgesTest::tellTheLeast);
        Edge.holds(23, "TELL for a NUT: 10 f and c (f 0 .. 20, c 0 .. 9), in the next STRIKE", HardEdgesTest::tellInTheNextStrike);
    }

    private static void noted() {
        Edge.holds(24, "a NUT, were it HARD h (0 .. 9), got x by f, having c, in t (as above)",
            () -> bounds("note", HardEdgesTest::note, new int[] {0, 0, 0, 0, 0, 0}, new int[] {1, 9, 99, 9, 44, 60}));
        Edge.holds(24, "A NOTE: how many there are. BAD; FULL: 6.",
            () -> fullAt("note", HardEdgesTest::note, new int[] {0, 0, 0, 0, 0, 0}, 6));
        Edge.holds(25, "were the ARM a (1 .. 9), struck with a NUT of WEIGHT w (1 .. 9) in STRIKE t (0 .. 99) with FORCE x (0 .. 60)",
            () -> bounds("mark", HardEdgesTest::mark, new int[] {0, 1, 1, 0, 0}, new int[] {1, 9, 9, 99, 60}));
        Edge.holds(25, "A MARK: how many there are. BAD; FULL: 6.",
            () -> fullAt("mark", HardEdgesTest::mark, new int[] {0, 1, 1, 0, 0}, 6));
        Edge.holds(26, "No SEEN ones (0), NOTES (1), MARKS (2): how many there were. BAD.", HardEdgesTest::forgetOne);
        Edge.holds(27, "IS, as bits. BAD.", () -> badIfNotThere("is", ConkerBouts::is));
        Edge.holds(27, "by which all NOTES of one are so", HardEdgesTest::kindsOfNoNotes);
        Edge.holds(27, "IS: KINDS (bits) of NUTS", HardEdgesTest::isByEdges);
        Edge.holds(27, "NOTES 0 .. 5, as they come", HardEdgesTest::allNotesOfOne);
        Edge.holds(28, "LOOK. NONE. BAD.", () -> badIfNotThere("look", ConkerBouts::look));
        Edge.holds(28, "of like ones the least; none: no KIND", HardEdgesTest::lookOfNoKind);
        Edge.holds(28, "in the next STRIKE, HARD as it is", HardEdgesTest::lookAtItsHard);
        Edge.holds(28, "by which the most of these KINDS that get as many are fewest", HardEdgesTest::lookTheLeast);
    }

    private static void marked() {
        Edge.holds(29, "WHAT, as bits. BAD.", () -> badIfNotThere("kinds", ConkerBouts::kinds));
        Edge.holds(29, "by which all MARKS of one are so", HardEdgesTest::kindsOfNoMarks);
        Edge.holds(29, "WHAT: KINDS of PLAYERS (bits)", HardEdgesTest::kindsByEdges);
        Edge.holds(29, "MARKS 0 .. 5, as they come", HardEdgesTest::allMarksOfOne);
        Edge.holds(30, "ASK. NONE. BAD.", () -> badIfNotThere("ask", ConkerBouts::ask));
        Edge.holds(30, "of like ones the least; none: no KIND", HardEdgesTest::askOfNoKind);
        Edge.holds(30, "by which the most of these KINDS with as much FORCE are fewest", HardEdgesTest::askTheLeast);
        Edge.holds(30, "ASK: 10 t and w (t 0 .. 20, w 1 .. 9), ARM as it is", HardEdgesTest::askByItsArm);
    }

    public static void main(String[] args) {
        seenAndTold();
        noted();
        marked();
        Due.end();
    }
}
