/** Holds answers against those that are due. */
public final class Due {
    private static int wrong = 0, asked = 0;
    private static int promise = 0;

    private Due() {
    }

    static void promise(int number) {
        promise = number;
    }

    static void due(String call, long got, long want) {
        asked++;
        if (got == want) return;
        wrong++;
        System.out.println("promise " + promise + ": " + call + " answered " + got + ", due is " + want);
    }

    static void end() {
        System.out.println(asked + " answers, " + wrong + " not as due");
        if (wrong != 0 || asked == 0) System.exit(1);
    }
}
