import java.lang.reflect.Method;
import java.util.Arrays;
import java.util.LinkedHashMap;
import java.util.Map;
import java.util.Random;

/** Runs of chance calls on the class and on the model: every answer, and all that can be asked behind it, must be alike. */
public final class ModelTest {
    private static final int RUNS = 700, CALLS = 120, MOST_SHOWN = 10;
    private static final Map<String, int[]> BOUNDS = new LinkedHashMap<>();

    static {
        // each argument's least and most; argument() goes beyond them now and then
        say("yard", 0, 99);
        say("player", 0, 5, 1, 9);
        say("nut", 0, 2, 0, 5, 0, 9, 1, 9);
        say("type", 0, 127);
        say("clear");
        say("read");
        say("strikes", 0, 5, 0, 5);
        say("waits", 1, 60);
        say("hands", 0, 5, 0, 2);
        say("undo");
        say("of", 0, 5, 0, 7);
        say("who", 0, 2, 0, 3);
        say("crack", 0, 5, 0, 5, 0, 1);
        say("lasts", 0, 5, 0, 5, 0, 1);
        say("bout", 0, 5, 0, 5, 0, 2);
        say("rank", 0, 5);
        say("order", 0, 5, -2, 5);
        say("firm", 0, 5, 0, 5);
        say("fit", 0, 2, 0, 1);
        say("seen", 0, 5, 0, 99, 0, 9, 0, 44, 0, 60);
        say("hards", 0, 5);
        say("tell", 0, 5);
        say("note", 0, 5, 0, 9, 0, 99, 0, 9, 0, 44, 0, 60);
        say("mark", 0, 2, 1, 9, 1, 9, 0, 99, 0, 60);
        say("forget", 0, 2);
        say("is", 0, 5);
        say("look", 0, 5);
        say("kinds", 0, 2);
        say("ask", 0, 2);
        say("pair", 0, 2, 0, 2, -1, 5);
        say("odds", 0, 5, 0, 5, 0, 6, 0, 10);
        say("days", 0, 999999, 0, 60);
        say("part", 0, 1);
        say("image", 0, 1);
        say("from", 0, 1);
        say("status", 0, 2);
        say("count", 0, 10);
        say("digest");
    }

    private static final String[] NAMES = BOUNDS.keySet().toArray(new String[0]);
    private static final Map<String, Method> OURS = methods(ConkerBouts.class), THEIRS = methods(Model.class);

    private final Random chance;
    private final ConkerBouts ours = new ConkerBouts();
    private final Model model = new Model();
    private final StringBuilder told = new StringBuilder();
    private boolean wrong = false;

    private ModelTest(long seed) {
        chance = new Random(seed);
    }

    private static void say(String name, int... bounds) {
        BOUNDS.put(name, bounds);
    }

    private static Map<String, Method> methods(Class<?> type) {
        Map<String, Method> all = new LinkedHashMap<>();
        for (Method m : type.getDeclaredMethods()) if (BOUNDS.containsKey(m.getName())) all.put(m.getName(), m);
        return all;
    }

    private long both(String name, int... args) {
        Object[] boxed = Arrays.stream(args).boxed().toArray();
        try {
            long got = ((Number) OURS.get(name).invoke(ours, boxed)).longValue();
            long due = ((Number) THEIRS.get(name).invoke(model, boxed)).longValue();
            told.append("  ").append(name).append(Arrays.toString(args)).append(" = ").append(got).append('\n');
            if (got != due) {
                wrong = true;
                told.append("  .. due is ").append(due).append('\n');
            }
            return got;
        } catch (ReflectiveOperationException e) {
            throw new AssertionError(name + Arrays.toString(args) + " threw", e);
        }
    }

    private int between(int least, int most) {
        return least + chance.nextInt(most - least + 1);
    }

    private int argument(int least, int most) {
        int sort = chance.nextInt(60);
        if (sort == 0) return new int[] {Integer.MIN_VALUE, Integer.MAX_VALUE, -1, -3, 1000}[chance.nextInt(5)];
        if (sort == 1) return least - 1;
        if (sort == 2) return most + 1;
        if (sort == 3) return least;
        return sort == 4 ? most : between(least, most);
    }

    private int[] arguments(int[] bounds) {
        int[] args = new int[bounds.length / 2];
        for (int k = 0; k < args.length; k++) args[k] = argument(bounds[2 * k], bounds[2 * k + 1]);
        return args;
    }

    private void makeYard() {
        both("yard", between(0, 99));
        int players = between(1, 3), nuts = between(2, 6);
        for (int p = 0; p < players; p++) both("player", between(0, 5), between(1, 9));
        for (int i = 0; i < nuts; i++) both("nut", between(0, players - 1), between(0, 5), between(0, 9), between(1, 9));
    }

    /** What was seen is mostly so, for chance alone would leave no hard and no kind. */
    private void seeSomething() {
        int i = between(0, 5), h = between(0, 9), t = between(0, 99), c = between(0, 9), f = between(0, 44);
        int nuts = (int) both("count", 1), players = (int) both("count", 0);
        int kind = i < nuts ? (int) both("of", i, 1) : 0;
        both("seen", i, t, c, f, Model.cracksOf(kind, h, c, f, t));
        both("note", i, h, t, c, f, Model.cracksOf(between(0, 5), h, c, f, t));
        int p = between(0, 2), a = between(1, 9), w = between(1, 9);
        both("mark", p, a, w, t, Model.forceOf(p < players ? (int) both("who", p, 0) : 0, a, w, t));
    }

    private String chanceText() {
        StringBuilder text = new StringBuilder();
        int players = 0, nuts = 0;
        if (chance.nextInt(20) > 0) text.append("yard ").append(between(0, 99)).append(';');
        while (text.length() < 110 && chance.nextInt(16) > 0) {
            text.append(" ".repeat(chance.nextInt(2)));
            int sort = chance.nextInt(12);
            if (players < 2 || sort == 0 && players < 3) {
                text.append("player ").append(between(0, 5)).append(' ').append(between(1, 9));
                players++;
            } else if (nuts < 2 || sort < 5 && nuts < 6) {
                text.append("nut ").append(between(0, players - 1)).append(' ').append(between(0, 5)).append(' ');
                text.append(between(0, 9)).append(' ').append(between(1, 9));
                nuts++;
            } else if (sort < 11) {
                text.append("strike ").append(between(0, nuts - 1)).append(' ').append(between(0, nuts - 1));
            } else {
                text.append("wait ").append(between(1, 99));
            }
            text.append(';');
        }
        return spoil(text);
    }

    private String spoil(StringBuilder text) {
        for (int n = chance.nextInt(3); n > 0 && text.length() > 0; n--) {
            int at = chance.nextInt(text.length());
            int sort = chance.nextInt(4);
            char c = "0123456789;;  abyardnutplayerstrikewait\t\0Az{`/:".charAt(chance.nextInt(46));
            if (sort == 0) text.setCharAt(at, c);
            if (sort == 1) text.insert(at, c);
            if (sort == 2) text.deleteCharAt(at);
            if (sort == 3 && chance.nextInt(4) == 0) text.setLength(at);
        }
        return text.toString();
    }

    private void readText() {
        both("clear");
        for (char c : chanceText().toCharArray()) both("type", c);
        both("read");
    }

    private void lookAround() {
        both("digest");
        for (int what = 0; what < 3; what++) both("status", what);
        for (int what = 0; what <= 10; what++) both("count", what);
    }

    private void step() {
        int sort = chance.nextInt(100);
        if (sort == 0) makeYard();
        else if (sort == 1) readText();
        else if (sort < 6) seeSomething();
        else if (sort < 30) both("strikes", between(0, 5), between(0, 5));
        else if (sort < 32) both("undo");
        else {
            String name = NAMES[chance.nextInt(NAMES.length)];
            // a new yard now and then, not at every other call
            if (name.equals("yard") && chance.nextInt(8) > 0) return;
            both(name, arguments(BOUNDS.get(name)));
        }
        lookAround();
    }

    private boolean run() {
        if (chance.nextInt(8) > 0) makeYard();
        for (int n = 0; n < CALLS && !wrong; n++) step();
        return !wrong;
    }

    /** Waits up to the most that a number can be, which chance would not reach. */
    private boolean runLong() {
        makeYard();
        for (int n = 0; n < 170 && !wrong; n++) both("waits", 60);
        for (int n = 0; n < CALLS && !wrong; n++) step();
        return !wrong;
    }

    private static void show(long seed, ModelTest test) {
        String[] lines = test.told.toString().split("\n");
        System.out.println("run of seed " + seed + " (" + lines.length + " rows), its last rows:");
        for (int k = Math.max(0, lines.length - 25); k < lines.length; k++) System.out.println(lines[k]);
    }

    public static void main(String[] args) {
        int wrong = 0;
        for (long seed = 0; seed < RUNS && wrong < MOST_SHOWN; seed++) {
            ModelTest test = new ModelTest(seed);
            boolean good = seed % 50 == 49 ? test.runLong() : test.run();
            if (good) continue;
            wrong++;
            show(seed, test);
        }
        System.out.println(wrong == 0 ? "all runs are like the model's" : wrong + " runs are not like the model's");
        if (wrong != 0) System.exit(1);
    }
}
