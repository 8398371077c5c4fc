/** Promise 7: each sentence on THE TEXT that names an edge, by itself. */
public final class TextEdgesTest {
    /** Two players, nut 0 of player 0 that breaks nut 1 of player 1 at a blow. */
    private static final String NUTS = "yard 7;player 0 9;player 0 1;nut 0 0 9 9;nut 1 0 0 1;";

    private static void due(String call, long got, long want) {
        Due.due(call, got, want);
    }

    private static void reads(String text, int items) {
        due("read of '" + text + "'", Yards.readText(new ConkerBouts(), text), items);
    }

    /** The text is 'good' and 'wrong' behind it, and the fault lies where 'wrong' begins. */
    private static void faultAt(String good, String wrong) {
        reads(good + wrong, -10 - good.length());
    }

    private static void endsTooEarly(String text) {
        faultAt(text, "");
    }

    private static void numberOfTheYard() {
        ConkerBouts x = new ConkerBouts();
        due("yard 0", Yards.readText(x, "yard 0;"), 1);
        due("count(2)", x.count(2), 0);
        due("yard 99", Yards.readText(x, "yard 99;"), 1);
        due("count(2)", x.count(2), 99);
        faultAt("yard ", "100;");
        faultAt("yard ", "-1;");
    }

    private static void firstOfAll() {
        for (String word : new String[] {"player 0 1;", "nut 0 0 0 1;", "strike 0 1;", "wait 1;", "5;", ";", "?", "Yard 5;", "a"}) {
            faultAt("", word + "yard 5;");
            faultAt("  ", word + "yard 5;");
        }
    }

    private static void onceOnly() {
        faultAt("yard 5;", "yard 5;");
        faultAt("yard 5; player 0 1; ", "yard");
        faultAt("yard 5 ", "yard 5;");
        faultAt("yard ", "yard 5;");
    }

    private static void wordsThatAreNone() {
        for (String word : new String[] {"y", "yar", "yards", "yardyard", "dray", "z", "hard", "zard", "yord", "yarn", "yarda", "yardz"}) faultAt("", word + " 5;");
        String[] none = {"play", "players", "layer", "nuts", "nu", "strikes", "strik", "waits", "wai", "waitwait", "a", "zzz",
            "slayer", "playez", "hut", "nub", "nuta", "nutz", "ztrike", "stroke", "strika", "bait", "want", "wail", "zwait"};
        for (String word : none) faultAt(NUTS, word + " 1 0 1 1;");
        faultAt(NUTS, "wai");
        faultAt(NUTS + "wait ", "wait 1;");
        faultAt(NUTS + "wait 1", "x;");
        faultAt(NUTS + "wait", "Z 1;");
    }

    private static void fourthPlayer() {
        String three = "yard 0;player 0 1;player 5 9;player 3 1;";
        reads(three, 4);
        faultAt(three, "player 0 1;");
        faultAt(three, "player");
        faultAt(three, "player 9 9 9");
        reads(three + "nut 2 0 0 1;", 5);
    }

    private static void seventhNut() {
        String five = "yard 0;player 0 1;";
        for (int n = 0; n < 5; n++) five += "nut 0 0 0 1;";
        reads(five + "nut 0 0 0 1;", 8);
        faultAt(five + "nut 0 0 0 1; ", "nut 0 0 0 1;");
        faultAt(five + "nut 0 0 0 1;", "nut");
        faultAt(five + "nut 0 0 0 1;", "nut 9");
        reads(five + "nut 0 0 0 1;wait 1;", 9);
    }

    private static void threeFigures() {
        for (String run : new String[] {"000", "001", "123", "0005", "99999999999999999999"}) {
            faultAt("yard ", run + ";");
            faultAt("yard 0;wait ", run + ";");
            faultAt("yard 0;player ", run + " 1;");
            faultAt("yard 0;player 0 ", run + ";");
            faultAt("yard 0;player 0 1;nut ", run + " 0 0 1;");
            faultAt("yard 0;player 0 1;nut 0 ", run + " 0 1;");
            faultAt("yard 0;player 0 1;nut 0 0 ", run + " 1;");
            faultAt("yard 0;player 0 1;nut 0 0 0 ", run + ";");
            faultAt(NUTS + "strike ", run + " 1;");
            faultAt(NUTS + "strike 0 ", run + ";");
            faultAt("yard 0 ", run + ";");
            faultAt("", run);
        }
    }

    private static void oneOrTwoFigures() {
        ConkerBouts x = new ConkerBouts();
        due("read of two figures each", Yards.readText(x, "yard 09;player 05 01;nut 00 04 07 09;wait 01;"), 4);
        int[] nut = {0, 4, 7, 9};
        for (int what = 0; what < 4; what++) due("of(0, " + what + ")", x.of(0, what), nut[what]);
        due("who(0, 0)", x.who(0, 0), 5);
        due("who(0, 1)", x.who(0, 1), 1);
        due("count(2)", x.count(2), 10);
        // 01 is the KIND alone
        faultAt("yard 0;player 01", ";");
        faultAt("yard 0;player 0 ", "12;");
        faultAt("yard 0 ", "0;");
    }

    private static void kindAndArm() {
        reads("yard 0;player 0 1;player 5 9;", 3);
        faultAt("yard 0;player ", "6 1;");
        faultAt("yard 0;player ", "99 1;");
        faultAt("yard 0;player 0 ", "0;");
        faultAt("yard 0;player 0 ", "00;");
        faultAt("yard 0;player 0 ", "10;");
    }

    private static void numbersOfANut() {
        String one = "yard 0;player 0 1;";
        reads(one + "nut 0 0 0 1;nut 0 5 9 9;", 4);
        faultAt(one + "nut 0 ", "6 0 1;");
        faultAt(one + "nut 0 5 ", "10 1;");
        faultAt(one + "nut 0 5 9 ", "0;");
        faultAt(one + "nut 0 5 9 ", "10;");
    }

    private static void numbersOfAWait() {
        ConkerBouts x = new ConkerBouts();
        due("read of waits", Yards.readText(x, "yard 99;wait 1;wait 99;"), 3);
        due("count(2)", x.count(2), 199);
        faultAt("yard 0;wait ", "0;");
        faultAt("yard 0;wait ", "00;");
        faultAt("yard 0;wait ", "100;");
    }

    private static void notThereYet() {
        faultAt("yard 0;nut ", "0 0 0 1;");
        faultAt("yard 0;player 0 1;nut ", "1 0 0 1;player 0 1;");
        faultAt("yard 0;strike ", "0 1;");
        faultAt("yard 0;player 0 1;player 0 1;nut 0 0 0 1;strike ", "1 0;nut 1 0 0 1;");
        faultAt("yard 0;player 0 1;player 0 1;nut 0 0 0 1;strike 0 ", "1;nut 1 0 0 1;");
        faultAt(NUTS + "strike ", "2 1;");
        faultAt(NUTS + "strike 0 ", "2;");
        reads(NUTS + "player 0 1;nut 2 0 0 1;strike 2 1;", 8);
    }

    private static void strikerIsBroken() {
        faultAt(NUTS + "strike 0 1;strike ", "1 0;");
        faultAt(NUTS + "strike 0 1;strike ", "1");
        faultAt(NUTS + "strike 0 1;strike ", "1 9;");
        reads(NUTS + "strike 1 0;strike 0 1;", 7);
    }

    private static void struckOneCanNotBe() {
        faultAt(NUTS + "strike 0 ", "0;");
        faultAt(NUTS + "strike 0 1;strike 0 ", "1;");
        faultAt(NUTS + "nut 0 0 0 1;strike 0 ", "2;");
        reads(NUTS + "nut 1 0 0 1;strike 0 1;strike 0 2;", 8);
    }

    private static void bytesThatBeginNone() {
        for (int c = 0; c < 128; c++) {
            boolean begins = c == ' ' || c == ';' || c >= '0' && c <= '9' || c >= 'a' && c <= 'z';
            if (begins) continue;
            String one = String.valueOf((char) c);
            faultAt("", one + "yard 5;");
            faultAt("yard", one + "5;");
            faultAt("yard 5", one + ";");
            faultAt("yard 5;", one);
        }
    }

    private static void semicolons() {
        endsTooEarly("yard 5");
        faultAt("yard 5;", ";");
        faultAt("yard 5; ", ";");
        faultAt("yard", ";");
        faultAt("yard 5 ", "player 0 1;");
        faultAt("yard 5;player 0", ";");
        faultAt("yard 5;player 0 1 ", "1;");
        faultAt(NUTS + "strike 0", ";");
        reads("yard 5 ; player 0 1 ;", 2);
    }

    private static void blanks() {
        reads("     yard     5    ;    player    0    1    ;     ", 2);
        reads("yard5;player0 1;wait9;", 3);
        reads("yard5;player 0 1;player 0 1;nut0 0 0 1;nut1 0 0 1;strike0 1;", 6);
        faultAt("yard5;player01", ";");
        faultAt("yard 5; player 0 1; ", "ya rd");
        faultAt("", "ya rd 5;");
        // a number that blanks part is two
        faultAt("yard 1 ", "2;");
    }

    /** Every beginning of a text: its items, if it ends behind one; a word's first byte, if it ends within; else its length. */
    private static void everyBeginning() {
        String text = " " + NUTS + " strike 0 1; wait 99;";
        for (int length = 0; length < text.length(); length++) {
            String part = text.substring(0, length), trimmed = part.stripTrailing();
            int items = (int) part.chars().filter(c -> c == ';').count();
            String last = part.replaceAll(".*[^a-z]", "");
            boolean inWord = !last.isEmpty() && Character.isLetter(text.charAt(length));
            if (trimmed.endsWith(";")) reads(part, items);
            else if (inWord) faultAt(part.substring(0, length - last.length()), last);
            else endsTooEarly(part);
        }
        reads(text, 7);
    }

    private static void emptyOnes() {
        due("read() of a new one", new ConkerBouts().read(), -10);
        endsTooEarly("");
        endsTooEarly(" ");
        endsTooEarly(" ".repeat(150));
    }

    private static void allBytesOfATextThatIsFull() {
        String waits = "wait 1;".repeat(20);
        String[] full = {"yard 0;" + waits + "   ", "yard 0  ; " + waits, "yard 0;  " + waits + ";", "yard 00; " + waits + "x"};
        int[] answers = {21, 21, -10 - 149, -10 - 149};
        for (int k = 0; k < full.length; k++) {
            due("length of '" + full[k] + "'", full[k].length(), 150);
            reads(full[k], answers[k]);
        }
        // the byte beyond the last is refused, and the text is read without it
        ConkerBouts x = new ConkerBouts();
        for (char c : full[1].toCharArray()) x.type(c);
        Edge.full(x, "type('x')", () -> x.type('x'));
        due("read()", x.read(), 21);
        due("count(2)", x.count(2), 20);
    }

    private static void allStaysByAFault() {
        ConkerBouts x = Yards.six();
        x.strikes(3, 0);
        x.seen(0, 0, 0, 0, 0);
        x.note(0, 0, 0, 0, 0, 0);
        x.mark(0, 1, 1, 0, 0);
        x.odds(3, 1, 1, 5);
        x.image(0);
        x.clear();
        for (char c : (NUTS + "strike 0 1;strike 0 1;").toCharArray()) x.type(c);
        Edge.stays(x, "read()", x::read, -10 - NUTS.length() - 20);
        due("count(10)", x.count(10), NUTS.length() + 22);
        due("undo()", x.undo(), 0);
        due("count(3)", x.count(3), 0);
    }

    private static void takesThePlace() {
        ConkerBouts x = Yards.six();
        x.strikes(3, 0);
        x.seen(0, 0, 0, 0, 0);
        x.note(0, 0, 0, 0, 0, 0);
        x.mark(0, 1, 1, 0, 0);
        due("read()", Yards.readText(x, NUTS + "strike 0 1;wait 9;"), 7);
        int[] counts = {2, 2, 17, 2, 10, 3, 0, 0, 0, 0};
        for (int what = 0; what <= 9; what++) due("count(" + what + ")", x.count(what), counts[what]);
        Edge.no(x, "undo()", x::undo);
        due("hards(0)", x.hards(0), 1023);
        due("of(0, 5)", x.of(0, 5), 2);
        due("of(0, 4)", x.of(0, 4), 0);
        Edge.bad(x, "of(2, 0)", () -> x.of(2, 0));
        due("waits(1)", x.waits(1), 18);
        due("read() again", x.read(), 7);
        due("count(2)", x.count(2), 17);
        due("count(9)", x.count(9), 0);
    }

    private static void whatReadLeaves() {
        ConkerBouts x = Yards.six();
        x.odds(3, 0, 1, 5);
        x.image(1);
        x.undo();
        x.of(6, 0);
        x.nut(0, 0, 0, 1);
        due("read()", Yards.readText(x, "yard 5;"), 1);
        due("count(10)", x.count(10), 7);
        due("part(0)", x.part(0), 1);
        due("part(1)", x.part(1), 2);
        for (int what = 0; what < 3; what++) due("status(" + what + ")", x.status(what), 1);
        due("from(0)", x.from(0), -3);
        due("from(1)", x.from(1), 1);
        due("count(1)", x.count(1), 6);
        due("count(2)", x.count(2), 0);
        due("count(10)", x.count(10), 7);
    }

    /** In strike 8 a damp nut of hard 0 gets all ten, in strike 9 only nine: what goes by within a text counts. */
    private static void numbersWithinAText() {
        String damp = "player 0 1;player 0 1;nut 0 0 9 9;nut 1 5 0 1;";
        ConkerBouts x = new ConkerBouts();
        Yards.readText(x, "yard 7;" + damp + "strike 0 1;");
        due("count(3)", x.count(3), 2);
        Yards.readText(x, "yard 7;" + damp + "wait 1;strike 0 1;");
        due("count(3)", x.count(3), 0);
        due("of(1, 4)", x.of(1, 4), 9);
        Yards.readText(x, "yard 7;" + damp + "strike 1 0;strike 0 1;");
        due("of(1, 4)", x.of(1, 4), 10);
        due("of(0, 5)", x.of(0, 5), 2);
    }

    private static void readForms() {
        Edge.holds(7, "yard T (the number of STRIKES, 0 .. 99; once, first of all)", TextEdgesTest::numberOfTheYard);
        Edge.holds(7, "anything ahead of it", TextEdgesTest::firstOfAll);
        Edge.holds(7, "yard again", TextEdgesTest::onceOnly);
        Edge.holds(7, "a word that is none", TextEdgesTest::wordsThatAreNone);
        Edge.holds(7, "a 4th player", TextEdgesTest::fourthPlayer);
        Edge.holds(7, "a 7th nut at its word", TextEdgesTest::seventhNut);
        Edge.holds(7, "a run of three figures or more (at its first one)", TextEdgesTest::threeFigures);
        Edge.holds(7, "figures (1 or 2 are one number)", TextEdgesTest::oneOrTwoFigures);
        Edge.holds(7, "player KIND ARM", TextEdgesTest::kindAndArm);
        Edge.holds(7, "nut PLAYER KIND HARD WEIGHT", TextEdgesTest::numbersOfANut);
        Edge.holds(7, "wait n (1 .. 99: so many numbers go by)", TextEdgesTest::numbersOfAWait);
        Edge.holds(7, "a number not as told, also one that is not there yet", TextEdgesTest::notThereYet);
        Edge.holds(7, "i BROKEN", TextEdgesTest::strikerIsBroken);
        Edge.holds(7, "j that i can not STRIKE", TextEdgesTest::struckOneCanNotBe);
        Edge.holds(7, "a byte that begins none", TextEdgesTest::bytesThatBeginNone);
        Edge.holds(7, "ITEMS, each ended by ;", TextEdgesTest::semicolons);
        Edge.holds(7, "blanks (32) between", TextEdgesTest::blanks);
    }

    public static void main(String[] args) {
        readForms();
        Edge.holds(7, "the TEXT's length, if it ends too early", TextEdgesTest::everyBeginning);
        Edge.holds(7, "(an empty one, too)", TextEdgesTest::emptyOnes);
        Edge.holds(7, "a TEXT (150 bytes at most)", TextEdgesTest::allBytesOfATextThatIsFull);
        Edge.holds(7, "-10 less the FAULT: all stays.", TextEdgesTest::allStaysByAFault);
        Edge.holds(7, "(SEEN ones, NOTES, MARKS none; nothing to undo)", TextEdgesTest::takesThePlace);
        Edge.holds(7, "takes the place of all but IMAGES, THE TEXT, THE FRACTION, STATUS", TextEdgesTest::whatReadLeaves);
        Edge.holds(7, "strike i j; wait n", TextEdgesTest::numbersWithinAText);
        Due.end();
    }
}
