/** Yards that several tests begin with. */
public final class Yards {
    private Yards() {
    }

    /** Players are {kind, arm}, nuts are {player, kind, hard, weight}. */
    static ConkerBouts of(int t, int[][] players, int[][] nuts) {
        ConkerBouts x = new ConkerBouts();
        x.yard(t);
        for (int[] p : players) x.player(p[0], p[1]);
        for (int[] n : nuts) x.nut(n[0], n[1], n[2], n[3]);
        return x;
    }

    /** Player 0 strikes with force 9 (nut 0, which a half of it does not crack); nut 1 is player 1's. */
    static ConkerBouts two(int t, int kind, int hard) {
        return of(t, new int[][] {{0, 4}, {0, 1}}, new int[][] {{0, 0, 9, 5}, {1, kind, hard, 1}});
    }

    /** Nut 0 breaks by its own blow of force 18, as does any soft nut that it strikes. */
    static ConkerBouts bothBreak() {
        return of(0, new int[][] {{0, 9}, {0, 9}}, new int[][] {{0, 2, 0, 9}, {1, 0, 0, 9}});
    }

    /** Nuts 0 to 2 of player 0 against 3 to 5 of player 1, who breaks any of them at a blow. */
    static ConkerBouts six() {
        ConkerBouts x = of(0, new int[][] {{0, 1}, {0, 9}}, new int[0][]);
        for (int i = 0; i < 3; i++) x.nut(0, 0, 0, 1);
        for (int i = 0; i < 3; i++) x.nut(1, 0, 9, 9);
        return x;
    }

    static int readText(ConkerBouts x, String text) {
        x.clear();
        for (char c : text.toCharArray()) x.type(c);
        return x.read();
    }

    /** Waits till the number is n, which a yard can not begin with; by few calls, for an object has but 512. */
    static ConkerBouts waitTill(ConkerBouts x, int n) {
        int number = x.count(2);
        while (number >= 0 && number < n) number = x.waits(Math.min(60, n - number));
        return x;
    }
}
