/** Holds answers against those that are due. */
public final class Due {
    private static int wrong = 0, asked = 0;
    private static String where = "";

    private Due() {
    }

    static void promise(int number) {
        where = "promise " + number;
    }

    static void sentence(int promise, String words) {
        where = "promise " + promise + ", '" + words + "'";
    }

    static int asked() {
        return asked;
    }

    static void due(String call, long got, long want) {
        asked++;
        if (got == want) return;
        wrong++;
        System.out.println(where + ": " + call + " answered " + got + ", due is " + want);
    }

    static void fault(String what) {
        wrong++;
        System.out.println(where + ": " + what);
    }

    static void end() {
        System.out.println(asked + " answers, " + wrong + " not as due");
        if (wrong != 0 || asked == 0) System.exit(1);
    }
}
