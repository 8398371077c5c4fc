import java.math.BigInteger;
import java.util.ArrayList;
import java.util.Arrays;
import java.util.Collections;
import java.util.List;
import java.util.function.IntPredicate;
import java.util.regex.Matcher;
import java.util.regex.Pattern;

/** The document a second time, written with the whole library and as unlike the class as may be, to hold the class against. */
public final class Model {
    static final class Player {
        final int kind, arm;

        Player(int kind, int arm) {
            this.kind = kind;
            this.arm = arm;
        }
    }

    static final class Nut {
        int owner, kind, hard, weight, cracks, score = 1;

        Nut copy() {
            Nut n = new Nut();
            n.owner = owner;
            n.kind = kind;
            n.hard = hard;
            n.weight = weight;
            n.cracks = cracks;
            n.score = score;
            return n;
        }

        boolean broken() {
            return cracks == 10;
        }
    }

    static final class Ground {
        int number;
        List<Player> players = new ArrayList<>();
        List<Nut> nuts = new ArrayList<>();

        Ground copy() {
            Ground g = new Ground();
            g.number = number;
            g.players.addAll(players);
            for (Nut n : nuts) g.nuts.add(n.copy());
            return g;
        }

        boolean there(int i) {
            return i >= 0 && i < nuts.size();
        }

        boolean can(int i, int j) {
            if (!there(i) || !there(j)) return false;
            Nut a = nuts.get(i), b = nuts.get(j);
            return a.owner != b.owner && !a.broken() && !b.broken();
        }

        void go(int n) {
            number += n;
            if (number > 9999) number = 9999;
        }

        int nextForce(Nut n) {
            Player p = players.get(n.owner);
            return forceOf(p.kind, p.arm, n.weight, number == 9999 ? 9999 : number + 1);
        }

        void blow(int i, int j) {
            Nut a = nuts.get(i), b = nuts.get(j);
            int f = nextForce(a);
            go(1);
            int toB = b.cracks + cracksOf(b.kind, b.hard, b.cracks, f, number);
            int toA = a.cracks + cracksOf(a.kind, a.hard, a.cracks, f / 2, number);
            a.cracks = toA > 10 ? 10 : toA;
            b.cracks = toB > 10 ? 10 : toB;
            if (a.broken() == b.broken()) return;
            Nut winner = a.broken() ? b : a, loser = a.broken() ? a : b;
            winner.score = Math.min(999, winner.score + loser.score);
        }
    }

    static final class Outcome {
        int strikes = -1, left = -1;
        Ground after;
    }

    static int forceOf(int kind, int a, int w, int t) {
        if (kind == 0) return a + w;
        if (kind == 1) return forceOf(0, a, w, t) + 3;
        if (kind == 2) return forceOf(0, a, w, t) + (t % 3 == 2 ? 4 : 0);
        if (kind == 3) return Math.max(1, forceOf(1, a, w, t) - t / 5);
        if (kind == 4) return (int) Math.ceil(forceOf(0, a, w, t) / 2.0);
        return forceOf(2, a, w, t) * (t % 7 == 0 ? 2 : 1);
    }

    static int cracksOf(int kind, int h, int c, int f, int t) {
        if (kind == 0) return f > h ? f - h : 0;
        if (kind == 1) return cracksOf(0, h, c, f, t) / 2;
        if (kind == 2) return cracksOf(0, h, c, f, t) + (f > h ? 2 : 0);
        if (kind == 3) return Math.min(2, cracksOf(1, h, c, f, t));
        if (kind == 4) return cracksOf(2, h, c, f, t) == 0 ? 0 : cracksOf(2, h, c, f, t) + c;
        int plain = cracksOf(0, h, c, f, t);
        return t % 2 == 0 || plain == 0 ? plain : plain - 1;
    }

    static Outcome meet(Ground from, int i, int j, boolean turns) {
        Outcome o = new Outcome();
        o.after = from.copy();
        int a = i, b = j;
        for (int n = 1; n <= 60 && o.after.can(a, b); n++) {
            o.after.blow(a, b);
            boolean bi = o.after.nuts.get(i).broken(), bj = o.after.nuts.get(j).broken();
            if (bi || bj) {
                o.strikes = n;
                o.left = bi && bj ? -1 : bi ? j : i;
            }
            if (turns) {
                int swap = a;
                a = b;
                b = swap;
            }
        }
        return o;
    }

    static final class Kept {
        Ground ground = new Ground();
        List<Ground> past = new ArrayList<>();
        List<List<int[]>> rows = List.of(new ArrayList<>(), new ArrayList<>(), new ArrayList<>());

        Kept copy() {
            Kept k = new Kept();
            k.ground = ground.copy();
            for (Ground g : past) k.past.add(g.copy());
            for (int s = 0; s < 3; s++) k.rows.get(s).addAll(rows.get(s));
            return k;
        }
    }

    private Kept s = new Kept();
    private final Kept[] images = new Kept[2];
    private final StringBuilder text = new StringBuilder();
    private BigInteger above = BigInteger.ZERO, below = BigInteger.ONE;
    private final int[] refused = new int[3];

    private int bad() {
        refused[0]++;
        return -2;
    }

    private int no() {
        refused[1]++;
        return -3;
    }

    private int full() {
        refused[2]++;
        return -4;
    }

    private static boolean in(int least, int n, int most) {
        return n >= least && n <= most;
    }

    private boolean nutThere(int i) {
        return s.ground.there(i);
    }

    private boolean playerThere(int p) {
        return in(0, p, s.ground.players.size() - 1);
    }

    private boolean two(int i, int j) {
        return nutThere(i) && nutThere(j) && i != j;
    }

    public int yard(int t) {
        if (!in(0, t, 99)) return bad();
        int were = s.ground.nuts.size();
        s = new Kept();
        s.ground.number = t;
        return were;
    }

    public int player(int kind, int arm) {
        if (!in(0, kind, 5) || !in(1, arm, 9)) return bad();
        if (s.ground.players.size() == 3) return full();
        s.ground.players.add(new Player(kind, arm));
        s.past.clear();
        return s.ground.players.size() - 1;
    }

    public int nut(int p, int kind, int hard, int weight) {
        if (!playerThere(p) || !in(0, kind, 5) || !in(0, hard, 9) || !in(1, weight, 9)) return bad();
        if (s.ground.nuts.size() == 6) return full();
        addNut(s.ground, p, kind, hard, weight);
        s.past.clear();
        return s.ground.nuts.size() - 1;
    }

    private static void addNut(Ground g, int p, int kind, int hard, int weight) {
        Nut n = new Nut();
        n.owner = p;
        n.kind = kind;
        n.hard = hard;
        n.weight = weight;
        g.nuts.add(n);
    }

    public int type(int c) {
        if (!in(0, c, 127)) return bad();
        if (text.length() == 150) return full();
        text.append((char) c);
        return text.length();
    }

    public int clear() {
        int had = text.length();
        text.setLength(0);
        return had;
    }

    private static final class Fault extends Exception {
        final int place;

        Fault(int place) {
            this.place = place;
        }
    }

    private static final Pattern TOKEN = Pattern.compile(" *([a-z]+|[0-9]+|[^ ])");

    /** Tokens with their places; the last is the end of the text. */
    private static final class Tokens {
        final List<String> words = new ArrayList<>();
        final List<Integer> places = new ArrayList<>();
        int at = 0;

        Tokens(String text) {
            Matcher m = Pattern.compile(TOKEN.pattern(), Pattern.DOTALL).matcher(text);
            while (m.find()) {
                words.add(m.group(1));
                places.add(m.start(1));
            }
            words.add("");
            places.add(text.length());
        }

        String peek() {
            return words.get(at);
        }

        void refuse(boolean wrong) throws Fault {
            if (wrong) throw new Fault(places.get(at));
        }

        int number(IntPredicate good) throws Fault {
            refuse(!peek().matches("[0-9]{1,2}") || !good.test(Integer.parseInt(peek())));
            return Integer.parseInt(words.get(at++));
        }
    }

    private static int readText(String text, Kept into) throws Fault {
        Tokens tokens = new Tokens(text);
        Ground g = into.ground;
        int items = 0;
        while (items == 0 || !tokens.peek().isEmpty()) {
            String word = tokens.peek();
            tokens.refuse(!List.of("yard", "player", "nut", "strike", "wait").contains(word));
            tokens.refuse((items == 0) != word.equals("yard"));
            tokens.refuse(word.equals("player") && g.players.size() == 3);
            tokens.refuse(word.equals("nut") && g.nuts.size() == 6);
            tokens.at++;
            if (word.equals("yard")) g.number = tokens.number(n -> true);
            if (word.equals("wait")) g.go(tokens.number(n -> n > 0));
            if (word.equals("player")) g.players.add(new Player(tokens.number(n -> n < 6), tokens.number(n -> in(1, n, 9))));
            if (word.equals("nut")) {
                int p = tokens.number(n -> n < g.players.size());
                int kind = tokens.number(n -> n < 6), hard = tokens.number(n -> n < 10);
                addNut(g, p, kind, hard, tokens.number(n -> in(1, n, 9)));
            }
            if (word.equals("strike")) {
                int i = tokens.number(n -> g.there(n) && !g.nuts.get(n).broken());
                int j = tokens.number(n -> g.can(i, n));
                g.blow(i, j);
            }
            tokens.refuse(!tokens.peek().equals(";"));
            tokens.at++;
            items++;
        }
        return items;
    }

    public int read() {
        Kept fresh = new Kept();
        try {
            int items = readText(text.toString(), fresh);
            s = fresh;
            return items;
        } catch (Fault fault) {
            return -10 - fault.place;
        }
    }

    private void keep() {
        s.past.add(s.ground.copy());
        if (s.past.size() == 9) s.past.remove(0);
    }

    public int strikes(int i, int j) {
        if (!two(i, j)) return bad();
        if (!s.ground.can(i, j)) return no();
        keep();
        s.ground.blow(i, j);
        return s.ground.nuts.get(j).cracks;
    }

    public int waits(int n) {
        if (!in(1, n, 60)) return bad();
        keep();
        s.ground.go(n);
        return s.ground.number;
    }

    public int hands(int i, int p) {
        if (!nutThere(i) || !playerThere(p)) return bad();
        Nut n = s.ground.nuts.get(i);
        if (n.owner == p || n.broken()) return no();
        keep();
        int was = n.owner;
        n.owner = p;
        return was;
    }

    public int undo() {
        if (s.past.isEmpty()) return no();
        s.ground = s.past.remove(s.past.size() - 1);
        return s.ground.number;
    }

    public int of(int i, int what) {
        if (!nutThere(i) || !in(0, what, 7)) return bad();
        Nut n = s.ground.nuts.get(i);
        int bits = 0;
        for (int j = 0; j < s.ground.nuts.size(); j++) bits += s.ground.can(i, j) ? 1 << j : 0;
        return new int[] {n.owner, n.kind, n.hard, n.weight, n.cracks, n.score, s.ground.nextForce(n), bits}[what];
    }

    public int who(int p, int what) {
        if (!playerThere(p) || !in(0, what, 3)) return bad();
        int bits = 0, sum = 0;
        for (int i : wholeOnes(p)) {
            bits += 1 << i;
            sum += s.ground.nuts.get(i).score;
        }
        return new int[] {s.ground.players.get(p).kind, s.ground.players.get(p).arm, bits, sum}[what];
    }

    private List<Integer> wholeOnes(int p) {
        List<Integer> all = new ArrayList<>();
        for (int i = 0; i < s.ground.nuts.size(); i++) {
            Nut n = s.ground.nuts.get(i);
            if (n.owner == p && !n.broken()) all.add(i);
        }
        return all;
    }

    public int crack(int i, int j, int what) {
        if (!two(i, j) || !in(0, what, 1)) return bad();
        if (!s.ground.can(i, j)) return -1;
        Ground g = s.ground.copy();
        g.blow(i, j);
        return g.nuts.get(what == 0 ? j : i).cracks;
    }

    public int lasts(int i, int j, int what) {
        if (!two(i, j) || !in(0, what, 1)) return bad();
        Outcome o = meet(s.ground, i, j, false);
        return what == 0 ? o.strikes : o.left;
    }

    public int bout(int i, int j, int what) {
        if (!two(i, j) || !in(0, what, 2)) return bad();
        Outcome o = meet(s.ground, i, j, true);
        if (what == 0) return o.strikes;
        return what == 1 || o.left == -1 ? o.left : o.after.nuts.get(o.left).score;
    }

    public int rank(int k) {
        if (k < 0) return bad();
        List<Nut> sorted = new ArrayList<>(s.ground.nuts);
        if (k >= sorted.size()) return no();
        sorted.sort((a, b) -> a.broken() != b.broken() ? (a.broken() ? 1 : -1) : b.score - a.score);
        return s.ground.nuts.indexOf(sorted.get(k));
    }

    private static void permute(List<Integer> head, List<Integer> rest, List<List<Integer>> all) {
        if (rest.isEmpty()) all.add(new ArrayList<>(head));
        for (int k = 0; k < rest.size(); k++) {
            List<Integer> h = new ArrayList<>(head), r = new ArrayList<>(rest);
            h.add(r.remove(k));
            permute(h, r, all);
        }
    }

    public int order(int i, int k) {
        if (!nutThere(i) || k < -2) {
            bad();
            return -10;
        }
        List<Integer> targets = new ArrayList<>();
        for (int j = 0; j < s.ground.nuts.size(); j++) if (s.ground.can(i, j)) targets.add(j);
        List<List<Integer>> orders = new ArrayList<>();
        permute(List.of(), targets, orders);
        List<Integer> best = null;
        Nut bestNut = null;
        for (List<Integer> order : orders) {
            Ground g = s.ground.copy();
            for (int j : order) if (!g.nuts.get(i).broken()) g = meet(g, i, j, true).after;
            Nut n = g.nuts.get(i);
            if (best == null || n.score > bestNut.score || n.score == bestNut.score && n.cracks < bestNut.cracks) {
                best = order;
                bestNut = n;
            }
        }
        if (k == -2) return bestNut.score;
        if (k == -1) return bestNut.cracks;
        return k < best.size() ? best.get(k) : -5;
    }

    public int firm(int i, int j) {
        if (!two(i, j)) return bad();
        for (int h = 0; h <= 9; h++) {
            Ground g = s.ground.copy();
            g.nuts.get(i).hard = h;
            if (meet(g, i, j, true).left == i) return h;
        }
        return -1;
    }

    public int fit(int p, int what) {
        if (!playerThere(p) || !in(0, what, 1)) return bad();
        int best = -1, score = -1;
        for (int i : wholeOnes(p)) {
            for (int j = 0; j < s.ground.nuts.size(); j++) {
                Outcome o = meet(s.ground, i, j, true);
                if (o.left != i || o.after.nuts.get(i).score <= score) continue;
                score = o.after.nuts.get(i).score;
                best = 10 * i + j;
            }
        }
        return what == 0 ? best : score;
    }

    private int addRow(int sort, int most, int... row) {
        List<int[]> rows = s.rows.get(sort);
        if (rows.size() == most) return full();
        rows.add(row);
        return rows.size();
    }

    public int seen(int i, int t, int c, int f, int x) {
        if (!nutThere(i) || !in(0, t, 99) || !in(0, c, 9) || !in(0, f, 44) || !in(0, x, 60)) return bad();
        return addRow(0, 5, i, t, c, f, x);
    }

    public int note(int i, int h, int t, int c, int f, int x) {
        if (!nutThere(i) || !in(0, h, 9) || !in(0, t, 99) || !in(0, c, 9) || !in(0, f, 44) || !in(0, x, 60)) return bad();
        return addRow(1, 6, i, h, t, c, f, x);
    }

    public int mark(int p, int a, int w, int t, int x) {
        if (!playerThere(p) || !in(1, a, 9) || !in(1, w, 9) || !in(0, t, 99) || !in(0, x, 60)) return bad();
        return addRow(2, 6, p, a, w, t, x);
    }

    public int forget(int what) {
        if (!in(0, what, 2)) return bad();
        int were = s.rows.get(what).size();
        s.rows.get(what).clear();
        return were;
    }

    public int hards(int i) {
        if (!nutThere(i)) return bad();
        int bits = 0;
        for (int h = 0; h < 10; h++) {
            boolean all = true;
            for (int[] r : s.rows.get(0)) {
                if (r[0] == i) all &= cracksOf(s.ground.nuts.get(i).kind, h, r[2], r[3], r[1]) == r[4];
            }
            if (all) bits += 1 << h;
        }
        return bits;
    }

    public int is(int i) {
        if (!nutThere(i)) return bad();
        int bits = 0;
        for (int k = 0; k < 6; k++) {
            boolean all = true;
            for (int[] r : s.rows.get(1)) if (r[0] == i) all &= cracksOf(k, r[1], r[3], r[4], r[2]) == r[5];
            if (all) bits += 1 << k;
        }
        return bits;
    }

    public int kinds(int p) {
        if (!playerThere(p)) return bad();
        int bits = 0;
        for (int k = 0; k < 6; k++) {
            boolean all = true;
            for (int[] r : s.rows.get(2)) if (r[0] == p) all &= forceOf(k, r[1], r[2], r[3]) == r[4];
            if (all) bits += 1 << k;
        }
        return bits;
    }

    private static int mostAlike(int[] tally) {
        return Arrays.stream(tally).max().getAsInt();
    }

    private int next() {
        return Math.min(9999, s.ground.number + 1);
    }

    public int tell(int i) {
        if (!nutThere(i)) return bad();
        int bits = hards(i), best = -1, fewest = 99;
        for (int f = 0; f <= 20 && bits != 0; f++) {
            for (int c = 0; c <= 9; c++) {
                int[] tally = new int[99];
                for (int h = 0; h < 10; h++) {
                    if ((bits & 1 << h) != 0) tally[cracksOf(s.ground.nuts.get(i).kind, h, c, f, next())]++;
                }
                if (mostAlike(tally) >= fewest) continue;
                fewest = mostAlike(tally);
                best = 10 * f + c;
            }
        }
        return best;
    }

    public int look(int i) {
        if (!nutThere(i)) return bad();
        int bits = is(i), best = -1, fewest = 99;
        for (int f = 0; f <= 20 && bits != 0; f++) {
            for (int c = 0; c <= 9; c++) {
                int[] tally = new int[99];
                for (int k = 0; k < 6; k++) {
                    if ((bits & 1 << k) != 0) tally[cracksOf(k, s.ground.nuts.get(i).hard, c, f, next())]++;
                }
                if (mostAlike(tally) >= fewest) continue;
                fewest = mostAlike(tally);
                best = 10 * f + c;
            }
        }
        return best;
    }

    public int ask(int p) {
        if (!playerThere(p)) return bad();
        int bits = kinds(p), best = -1, fewest = 99;
        for (int t = 0; t <= 20 && bits != 0; t++) {
            for (int w = 1; w <= 9; w++) {
                int[] tally = new int[99];
                for (int k = 0; k < 6; k++) {
                    if ((bits & 1 << k) != 0) tally[forceOf(k, s.ground.players.get(p).arm, w, t)]++;
                }
                if (mostAlike(tally) >= fewest) continue;
                fewest = mostAlike(tally);
                best = 10 * t + w;
            }
        }
        return best;
    }

    private int[] gains(int i, int j) {
        Ground g = meet(s.ground, i, j, true).after;
        int[] gains = new int[2];
        for (int side = 0; side < 2; side++) {
            Nut then = g.nuts.get(side == 0 ? i : j), now = s.ground.nuts.get(side == 0 ? i : j);
            gains[side] = 3 * (then.score - now.score) - (then.cracks - now.cracks);
        }
        return gains;
    }

    public int pair(int a, int b, int k) {
        if (!playerThere(a) || !playerThere(b) || a == b || k < -1) {
            bad();
            return -10;
        }
        List<Integer> resting = new ArrayList<>();
        for (int i : wholeOnes(a)) {
            for (int j : wholeOnes(b)) {
                int[] here = gains(i, j);
                boolean first = wholeOnes(a).stream().noneMatch(o -> gains(o, j)[0] > here[0]);
                boolean second = wholeOnes(b).stream().noneMatch(o -> gains(i, o)[1] > here[1]);
                if (first && second) resting.add(10 * i + j);
            }
        }
        Collections.sort(resting);
        if (k == -1) return resting.size();
        return k < resting.size() ? resting.get(k) : -5;
    }

    /** The chance times ten to the n. */
    private static long chance(Ground g, int i, int j, int n, int c) {
        if (n == 0 || !g.can(i, j)) {
            boolean so = g.nuts.get(j).broken() && !g.nuts.get(i).broken();
            return so ? (long) Math.pow(10, n) : 0;
        }
        Ground hit = g.copy(), miss = g.copy();
        hit.blow(i, j);
        miss.go(1);
        return (10 - c) * chance(hit, i, j, n - 1, c) + c * chance(miss, i, j, n - 1, c);
    }

    public int odds(int i, int j, int n, int c) {
        if (!two(i, j) || !in(0, n, 6) || !in(0, c, 10)) return bad();
        BigInteger ways = BigInteger.valueOf(chance(s.ground, i, j, n, c)), all = BigInteger.TEN.pow(n);
        above = ways.divide(ways.gcd(all));
        below = all.divide(ways.gcd(all));
        return 1;
    }

    public int days(int seed, int n) {
        if (!in(0, seed, 999999) || !in(0, n, 60)) return bad();
        Ground g = s.ground.copy();
        BigInteger x = BigInteger.valueOf(seed), six = BigInteger.valueOf(6);
        for (int k = 0; k < n; k++) {
            x = x.multiply(BigInteger.valueOf(1103515245)).add(BigInteger.valueOf(12345)).mod(BigInteger.ONE.shiftLeft(31));
            int i = x.divide(BigInteger.valueOf(65536)).mod(six).intValue();
            int j = x.divide(BigInteger.valueOf(1048576)).mod(six).intValue();
            if (g.can(i, j)) g.blow(i, j);
            else g.go(1);
        }
        return (int) g.nuts.stream().filter(Nut::broken).count();
    }

    public long part(int what) {
        if (!in(0, what, 1)) return bad();
        return (what == 0 ? above : below).longValueExact();
    }

    public int image(int i) {
        if (!in(0, i, 1)) return bad();
        images[i] = s.copy();
        return 1;
    }

    public int from(int i) {
        if (!in(0, i, 1)) return bad();
        if (images[i] == null) return no();
        s = images[i].copy();
        return 1;
    }

    public int status(int what) {
        if (in(0, what, 2)) return refused[what];
        bad();
        return -1;
    }

    public int count(int what) {
        if (!in(0, what, 10)) return bad();
        int broken = 0, cracks = 0, scores = 0;
        for (int i = 0; i < s.ground.nuts.size(); i++) {
            Nut n = s.ground.nuts.get(i);
            broken += n.broken() ? 1 << i : 0;
            cracks += n.cracks;
            scores += n.score;
        }
        return new int[] {s.ground.players.size(), s.ground.nuts.size(), s.ground.number, broken, cracks, scores,
            s.rows.get(0).size(), s.rows.get(1).size(), s.rows.get(2).size(), s.past.size(), text.length()}[what];
    }

    public long digest() {
        List<Long> all = new ArrayList<>();
        for (int k = 0; k <= 10; k++) all.add((long) count(k));
        for (Player p : s.ground.players) Collections.addAll(all, (long) p.kind, (long) p.arm);
        for (int i = 0; i < s.ground.nuts.size(); i++) for (int w = 0; w <= 5; w++) all.add((long) of(i, w));
        for (List<int[]> rows : s.rows) for (int[] row : rows) for (int v : row) all.add((long) v);
        Collections.addAll(all, part(0), part(1));
        return all.stream().reduce(1823L, (h, v) -> 31 * h + v);
    }
}
