/** What the tests by hand share: which sentence of the document is asked, and what is not as due. */
abstract class Asked {
    static final int NONE = -1;
    private static int wrong = 0;
    private static int asked = 0;
    private static String sentence = "";

    /** The words of the document that the calls from here on would find broken. */
    static void sentence(String words) {
        sentence = words;
    }

    static void due(String call, long got, long want) {
        asked++;
        if (got != want) {
            wrong++;
            System.out.println("'" + sentence + "': " + call + " answered " + got + ", due is " + want);
        }
    }

    static void due(String call, boolean got, boolean want) {
        due(call, got ? 1 : 0, want ? 1 : 0);
    }

    static void due(String call, String got, String want) {
        due(call + ": " + got + " / " + want, got.equals(want), true);
    }

    static void endOfTest() {
        System.out.println(wrong == 0 ? "all " + asked + " answers are as due" : wrong + " answers are not as due");
        if (wrong != 0) {
            System.exit(1);
        }
    }

    static RegisterColours with(int k, int m, int clobbered, String text) {
        RegisterColours x = new RegisterColours();
        due("set K", x.set(0, k), true);
        due("set M", x.set(1, m), true);
        due("set CLOBBERED", x.set(2, clobbered), true);
        due(text, tell(x, text) >= 0, true);
        return x;
    }

    /** Feeds the text and ends it; leaves code() to the caller. */
    static void feed(RegisterColours x, String text) {
        x.end(0);
        for (int[] f : Lot.fives(text)) {
            x.feed(f[0], f[1], f[2], f[3], f[4]);
        }
        due("end", x.end(text.length()), true);
    }

    static int tell(RegisterColours x, String text) {
        feed(x, text);
        return x.code();
    }

    static void steps(RegisterColours x, boolean left, int[][] due) {
        for (int i = 0; i < due.length; i++) {
            for (int what = 0; what < due[i].length; what++) {
                due("step(" + i + ", " + left + ", " + what + ")", x.step(i, left, what), due[i][what]);
            }
        }
        due("step behind all", x.step(due.length, left, 0), NONE);
        due("step ahead of all", x.step(-1, left, 0), NONE);
    }

    static void row(String call, int[] got, int... want) {
        for (int i = 0; i < want.length; i++) {
            due(call + i + ")", got[i], want[i]);
        }
    }

    static int[] lefts(RegisterColours x) {
        int[] all = new int[12];
        for (int what = 0; what < 12; what++) {
            all[what] = x.left(what);
        }
        return all;
    }

    static int[] looks(RegisterColours x) {
        int[] all = new int[11];
        for (int what = 0; what < 11; what++) {
            all[what] = x.look(what);
        }
        return all;
    }

    static int[] runs(RegisterColours x, int which) {
        return new int[] {x.run(which, 0), x.run(which, 1), x.run(which, 2), x.run(which, 3)};
    }

    static int[] graphs(RegisterColours x) {
        return new int[] {x.graph(0), x.graph(1), x.graph(2), x.graph(3)};
    }

    static int[] colours(RegisterColours x, int what, int... of) {
        int[] all = new int[of.length];
        for (int i = 0; i < of.length; i++) {
            all[i] = x.colour(of[i], what);
        }
        return all;
    }

    /** How many bytes the TAPE has: end() of just that many changes nothing. */
    static int taped(RegisterColours x) {
        int n = 400;
        while (n > 0 && !x.end(n)) {
            n--;
        }
        return n;
    }

    /** All that can be seen of an object, but for the bytes of its TAPE. */
    static String everything(RegisterColours x) {
        StringBuilder all = new StringBuilder();
        all.append(taped(x)).append(' ').append(x.fault(0)).append(' ').append(x.fault(1)).append(' ').append(x.proved());
        for (int[] some : new int[][] {looks(x), lefts(x), runs(x, 0), runs(x, 1), graphs(x)}) {
            all.append(java.util.Arrays.toString(some));
        }
        for (int i = 0; i < Math.max(x.look(1), x.left(1)); i++) {
            for (int what = 0; what < 9; what++) {
                all.append(x.step(i, false, what)).append(',').append(x.step(i, true, what)).append(' ');
            }
        }
        for (int v = 0; v < 200; v++) {
            for (int what = 0; what < 5; what++) {
                all.append(x.colour(v, what)).append(',').append(x.value(v, what)).append(' ');
            }
            for (int y = 0; y < 44 && v < 44; y++) {
                all.append(x.edge(v, y)).append(x.live(y, v));
            }
        }
        return all.toString();
    }
}
