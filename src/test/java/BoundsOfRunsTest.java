/** Section 4 and promises 15 to 20, sentence by sentence where they name a bound. */
public final class BoundsOfRunsTest extends Asked {
    private static final int MIN = Integer.MIN_VALUE;
    private static final int MAX = Integer.MAX_VALUE;

    public static void main(String[] args) {
        zeroAtFirst();
        wrapping();
        products();
        comparing();
        broughtOver();
        inputs();
        calls();
        outs();
        twoThousandSteps();
        stepsOfRunOne();
        runAsked();
        provedAsked();
        chordal();
        fewest();
        chordalAlone();
        painted();
        clashes();
        heaviest();
        graphAsked();
        imageOfEach();
        imageAgain();
        notInTheImage();
        toldAnew();
        lookAsked();
        endOfTest();
    }

    /** What one code puts out, asked of both RUNS: the number of one value. */
    private static void bothRuns(String text, int[] input, int number) {
        for (int k = 2; k <= 8; k += 3) {
            RegisterColours x = with(k, 2, k / 2, text);
            for (int v : input) {
                x.input(v, true);
            }
            due("allocate() of " + text, x.allocate() > 0, true);
            for (int which = 0; which < 2; which++) {
                due("end of RUN " + which + " of " + text, x.run(which, 0), 0);
                due("number of RUN " + which + " of " + text, x.run(which, 3), number);
            }
            due("proved()", x.proved(), 1);
        }
    }

    // ---- RUNNING ----

    private static void zeroAtFirst() {
        sentence("VALUES are ints, 0 at first");
        bothRuns("out v0;out w0;v1=low d0;out v1;v1=high d0;out v1;v2=call v5;out v2;", new int[0], 3);
        bothRuns("v0=v1-v2;out v0;w0=w1*w2;out w0;d1=d2;v3=high d1;out v3;v4=1;out v4;", new int[0], 1);
        // Two runs of one object begin at 0 both.
        RegisterColours x = with(4, 2, 1, "out v0;v0=5;out w0;w0=7;");
        x.allocate();
        for (int i = 0; i < 4; i++) {
            due("again", x.run(i % 2, 3), 0);
        }
        // w0 has a SLOT, which the first run leaves full.
        x = with(4, 1, 1, "out w0;w0=in;w1=in;out w1;out w1;out w1;out w0;");
        due("ROUNDS", x.allocate(), 2);
        for (int i = 1; i < 4; i++) {
            x.input(1, true);
            due("0 comes out first", x.run(1, 3), x.run(0, 3));
        }
    }

    private static void wrapping() {
        sentence("VALUES are ints (wrapping)");
        int[][] pairs = {{MAX, 1}, {MIN, 1}, {MIN, -1}, {MAX, MAX}, {MIN, MIN}, {MIN, MAX}, {65536, 65536}, {-1, MIN}, {46341, 46341}, {0, MIN}};
        for (int[] p : pairs) {
            bothRuns("v0=in;v1=in;v2=v0+v1;out v2;", p, p[0] + p[1]);
            bothRuns("v0=in;v1=in;v2=v0-v1;out v2;", p, p[0] - p[1]);
            bothRuns("v0=in;v1=in;v2=v0*v1;out v2;", p, p[0] * p[1]);
            bothRuns("w0=in;w1=in;w0=w0+w1;out w0;", p, p[0] + p[1]);
            bothRuns("w0=in;w1=in;w0=w0-w1;out w0;", p, p[0] - p[1]);
            bothRuns("w0=in;w1=in;w0=w0*w1;out w0;", p, p[0] * p[1]);
        }
    }

    private static void products() {
        sentence("of class D 64 bits: X * X into d the whole product, low and high its lower, higher 32 bits");
        int[][] pairs = {{MIN, MIN}, {MIN, -1}, {MAX, MAX}, {MIN, MAX}, {-1, -1}, {-1, 1}, {65536, 65536}, {65536, 32768}, {0, MIN}, {MAX, 2}, {-3, 5}};
        for (int[] p : pairs) {
            long whole = (long) p[0] * p[1];
            bothRuns("v0=in;v1=in;d0=v0*v1;v2=low d0;out v2;", p, (int) whole);
            bothRuns("v0=in;v1=in;d0=v0*v1;v2=high d0;out v2;", p, (int) (whole >> 32));
            bothRuns("v0=in;v1=in;d0=v0*v1;d3=d0;v0=low d3;out v0;v0=high d3;out v0;", p, 31 * (int) whole + (int) (whole >> 32));
        }
        bothRuns("v0=in;d0=v0*v0;v1=high d0;v2=low d0;out v1;out v2;", new int[] {MIN}, 31 * (1 << 30));
    }

    private static void comparing() {
        sentence("if X < X goto N");
        int[][] pairs = {{MIN, MAX}, {MAX, MIN}, {0, 0}, {-1, 0}, {0, -1}, {MIN, MIN}, {MAX - 1, MAX}};
        for (int[] p : pairs) {
            for (char c : new char[] {'v', 'w'}) {
                String text = "v0=in;v1=in;if v0<v1 goto 5;v2=8;goto 6;v2=9;out v2;";
                bothRuns(c == 'v' ? text : text.replace("v0", "w0").replace("v1", "w1"), p, p[0] < p[1] ? 9 : 8);
            }
        }
    }

    private static void broughtOver() {
        sentence("unlike: it is brought over");
        for (int v : new int[] {MIN, MAX, -1, 0, 77}) {
            bothRuns("v0=in;w0=v0;v0=1;v1=w0;out v1;out w0;", new int[] {v}, 31 * v + v);
        }
    }

    private static void inputs() {
        sentence("in: the next of THE INPUT (up to 16 told; 0 behind its end)");
        bothRuns("v0=in;out v0;w0=in;out w0;v0=in;out v0;", new int[] {MIN, 5}, 31 * (31 * MIN + 5));
        bothRuns("v0=in;out v0;", new int[0], 0);
        RegisterColours x = with(4, 2, 1, "v0=in;out v0;if v1<v0 goto 0;");
        x.allocate();
        for (int n = 1; n <= 16; n++) {
            x.input(1, true);
            for (int which = 0; which < 2; which++) {
                row("run(" + which + ", ", runs(x, which), 0, 3 * n + 3, n + 1);
            }
        }
        x.input(0, false);
        row("run(1, ", runs(x, 1), 0, 3, 1, 0);
    }

    private static void calls() {
        sentence("call of y: 7 y and 3");
        for (int y : new int[] {0, 1, -1, MAX, MIN, 306783378, -306783379}) {
            bothRuns("v0=in;v1=call v0;out v1;", new int[] {y}, 7 * y + 3);
            bothRuns("v0=in;v1=call v0;v2=call v1;out v2;", new int[] {y}, 7 * (7 * y + 3) + 3);
            bothRuns("v0=in;v3=5;v1=call v0;out v1;out v0;out v3;", new int[] {y}, 31 * (31 * (7 * y + 3) + y) + 5);
        }
    }

    private static void outs() {
        sentence("OUTS: how many, and 31 times what it was and the value, from 0 on (an int)");
        RegisterColours x = with(4, 2, 1, "v0=in;out v0;goto 1;");
        x.input(MAX, true);
        int number = 0;
        for (int i = 0; i < 1000; i++) {
            number = 31 * number + MAX;
        }
        // One STEP, then 999 times two, then one more.
        row("run(0, ", runs(x, 0), 1, 2000, 1000, number);
        x.allocate();
        row("run(1, ", runs(x, 1), 1, 2000, 1000, number);
        row("none ", runs(with(4, 2, 1, "v0=1;"), 0), 0, 1, 0, 0);
        bothRuns("v0=5;out v0;w0=9;out w0;out v0;", new int[0], 31 * (31 * 5 + 9) + 5);
    }

    private static void twoThousandSteps() {
        sentence("At the end, or behind 2000 STEPS, it ends");
        String loop = "v0=0;v1=1;v2=#;v0=v0+v1;if v0<v2 goto 3;out v0;";
        String longer = "v3=0;v0=0;v1=1;v2=#;v0=v0+v1;if v0<v2 goto 4;out v0;";
        Object[][] table = {{longer, 997, 0, 1999, 1, 997}, {loop, 998, 0, 2000, 1, 998}, {longer, 998, 1, 2000, 0, 0}, {loop, 999, 1, 2000, 0, 0},
            {longer, 999, 1, 2000, 0, 0}, {loop, 9999, 1, 2000, 0, 0}};
        for (Object[] t : table) {
            RegisterColours x = with(4, 2, 1, ((String) t[0]).replace("#", "" + t[1]));
            x.allocate();
            for (int which = 0; which < 2; which++) {
                row(t[1] + " times, run(" + which + ", ", runs(x, which), (int) t[2], (int) t[3], (int) t[4], (int) t[5]);
            }
        }
        row("for ever ", runs(with(4, 2, 1, "goto 0;"), 0), 1, 2000, 0, 0);
        row("over the end ", runs(with(4, 2, 1, "goto 2;out v0;"), 0), 0, 1, 0, 0);
        row("a jump to the end ", runs(with(4, 2, 1, "if v0<v1 goto 0;v1=1;if v0<v1 goto 4;out v1;"), 0), 0, 3, 0, 0);
        // A call is three STEPS: 500 times four.
        row("calls ", runs(with(4, 2, 1, "v0=call v0;goto 0;"), 0), 1, 2000, 0, 0);
        row("calls ", runs(with(4, 2, 1, "v0=call v0;out v0;goto 0;"), 0), 1, 2000, 400);
    }

    private static void stepsOfRunOne() {
        sentence("RUN 1: what ALLOCATE left: by registers and SLOTS (0 at first)");
        // w0 is never made: its SLOT is read and is 0.
        RegisterColours x = with(4, 1, 1, "w1=in;out w1;out w0;");
        x.input(6, true);
        x.allocate();
        row("run(0, ", runs(x, 0), 0, 3, 2, 31 * 6);
        row("run(1, ", runs(x, 1), 0, 4, 2, 31 * 6);
        // Loads and stores are STEPS, so RUN 1 may come to 2000 where RUN 0 comes to the end.
        x = with(2, 1, 1, "v0=900;v1=1;v2=5;v3=v3+v1;if v3<v0 goto 3;out v2;out v3;");
        due("allocate()", x.allocate() > 1, true);
        row("run(0, ", runs(x, 0), 0, 1805, 2, 31 * 5 + 900);
        row("run(1, ", runs(x, 1), 1, 2000, 0, 0);
        sentence("a CALL makes each one CLOBBERED but r0 12345 and its number");
        for (int c = 1; c <= 8; c++) {
            x = with(8, 1, c, "v0=in;v1=in;v2=call v0;out v0;out v1;out v2;");
            x.input(3, true);
            x.input(4, true);
            due("allocate()", x.allocate() > 0, true);
            due("what lives over the call is not touched", x.run(1, 3), 31 * (31 * 3 + 4) + 24);
        }
    }

    private static void runAsked() {
        sentence("run: NONE if it can't be, or another what");
        RegisterColours x = with(4, 2, 1, "v0=1;out v0;");
        for (int what = -1; what <= 4; what++) {
            due("nothing left", x.run(1, what), NONE);
        }
        x.allocate();
        for (int which : new int[] {-1, 2, 256, MIN, MAX}) {
            for (int what = -1; what <= 4; what++) {
                due("run(" + which + ", " + what + ")", x.run(which, what), NONE);
            }
        }
        for (int what : new int[] {-1, 4, 5, 256, MIN, MAX}) {
            due("run(0, " + what + ")", x.run(0, what), NONE);
            due("run(1, " + what + ")", x.run(1, what), NONE);
        }
        for (int which = 0; which < 2; which++) {
            row("run(" + which + ", ", runs(x, which), 0, 2, 1, 1);
        }
        x.set(1, 1);
        due("gone", x.run(1, 0), NONE);
        due("RUN 0 can be", x.run(0, 0), 0);
        sentence("RUN 0: THE CODE as STEPS of section 2");
        tell(x, "out v0;out v0;v0=in;out v0;");
        row("another code: ", runs(x, 0), 0, 4, 3, 0);
        x.input(8, true);
        row("another input: ", runs(x, 0), 0, 4, 3, 8);
        x.image(true);
        x.input(8, false);
        row("no input: ", runs(x, 0), 0, 4, 3, 0);
        x.image(false);
        row("gone back: ", runs(x, 0), 0, 4, 3, 8);
        x.allocate();
        row("RUN 1: ", runs(x, 1), 0, 4, 3, 8);
        tell(x, "out v0;");
        x.allocate();
        row("RUN 1 of another code: ", runs(x, 1), 0, 1, 1, 0);
    }

    private static void provedAsked() {
        sentence("PROVED: each register that is read there holds the VALUE that is read (at the beginning: all)");
        for (int m = 1; m <= 4; m++) {
            // w0 is never made and is coloured last, so it has the last register.
            RegisterColours last = with(8, m, 1, "w1=in;w2=in;w3=in;".substring(0, 6 * m - 6) + "out w0;" + "out w1;out w2;out w3;".substring(0, 7 * m - 7));
            due("allocate()", last.allocate(), 1);
            due("w0", last.colour(32, 0), m - 1);
            due("proved(), M " + m, last.proved(), 1);
        }
        sentence("proved: PROVED (1, 0). NONE if ALLOCATE left nothing");
        RegisterColours x = new RegisterColours();
        due("nothing", x.proved(), NONE);
        x.allocate();
        due("of the empty code", x.proved(), 1);
        x.set(0, 4);
        due("gone", x.proved(), NONE);
        tell(x, "w0=in;w1=in;w0=w0+w1;out w0;");
        x.set(1, 1);
        due("it FAILS", x.allocate(), NONE);
        due("nothing", x.proved(), NONE);
    }

    // ---- graphs ----

    private static final String RING = "v0=in;v1=in;out v0;v2=in;out v1;v3=in;out v2;v0=in;out v3;if v0<v0 goto 1;";

    private static void chordal() {
        sentence("CHORDAL: as long as there is one whose neighbours left have EDGES with one another all, the least such is taken out: all are out at last");
        row("a ring of four: graph(", graphs(with(4, 2, 1, RING)), 0, NONE, 0, 2);
        // v0 stays LIVE by v2, which is the chord.
        row("with a chord: graph(", graphs(with(4, 2, 1, "v0=in;v1=in;v2=in;out v1;v3=in;out v2;out v3;out v0;")), 1, 3, 0, 3);
        row("a row of three: graph(", graphs(with(4, 2, 1, RING.replace("v3=in;out v2;", "out v2;").replace("out v3;", ""))), 1, 2, 0, 2);
        // The ring and one beside it that goes out: what is left is the ring.
        row("a ring and more: graph(", graphs(with(4, 2, 1, "v9=in;v8=in;out v8;out v9;" + RING.replace("goto 1", "goto 5"))), 0, NONE, 0, 2);
        sentence("CHORDAL: of the VALUES of class A that are THERE and not FIXED");
        row("a ring of class B: graph(", graphs(with(4, 4, 1, RING.replace('v', 'w'))), 1, 0, 0, 0);
    }

    private static void fewest() {
        sentence("FEWEST: if so, the greatest number of neighbours left of one taken out, and 1 (none THERE: 0)");
        row("none: graph(", graphs(with(4, 2, 1, "w0=in;goto 2;")), 1, 0, 0, 0);
        row("pairs alone: graph(", graphs(with(4, 2, 1, "d0=d1;d1=d0;")), 1, 0, 0, 2);
        row("one: graph(", graphs(with(4, 2, 1, "v23=in;")), 1, 1, 0, 0);
        row("two without EDGES: graph(", graphs(with(4, 2, 1, "v0=in;out v0;v1=in;out v1;")), 1, 1, 0, 1);
        row("24 LIVE at once, none made: graph(", graphs(with(4, 2, 1, allCompared(12))), 1, 1, 0, 24);
        StringBuilder made = new StringBuilder();
        for (int v = 0; v < 24; v++) {
            made.append('v').append(v).append("=1;");
        }
        RegisterColours x = with(4, 2, 1, made + allCompared(36));
        row("24 all with EDGES: graph(", graphs(x), 1, 24, 0, 24);
        due("EDGES", x.look(7), 24 * 23 / 2);
        for (int v = 0; v < 24; v++) {
            x.paint(v, 7);
        }
        due("CLASHES", x.graph(2), 24 * 23 / 2);
        due("PAINTED", x.look(9), 24);
    }

    /** Twelve jumps that read all 24 v, all to one LINE. */
    private static String allCompared(int to) {
        StringBuilder text = new StringBuilder();
        for (int v = 0; v < 24; v += 2) {
            text.append("if v").append(v).append("<v").append(v + 1).append(" goto ").append(to).append(';');
        }
        return text.toString();
    }

    private static void chordalAlone() {
        sentence("with EDGES of section 2 (ahead of any ROUND)");
        RegisterColours x = with(2, 1, 2, "v0=in;v1=in;v2=in;v3=call v0;out v1;out v2;out v3;out v0;");
        int[] before = graphs(x);
        due("allocate()", x.allocate() > 1, true);
        row("graph(", graphs(x), before);
        row("graph(", before, 1, 4, 0, 4);
        x.set(0, 8);
        row("K does not matter: graph(", graphs(x), before);
    }

    private static void painted() {
        sentence("PAINTED: a colour 0 .. 7 told by hand for v 0 .. 23 (none at first)");
        RegisterColours x = new RegisterColours();
        due("none at first", x.look(9), 0);
        for (int v = 0; v < 24; v++) {
            due("paint(" + v + ", 0)", x.paint(v, 0), true);
            due("paint(" + v + ", 7)", x.paint(v, 7), true);
            due("PAINTED", x.look(9), v + 1);
        }
        for (int v : new int[] {-1, 24, 31, 32, 256, MIN, MAX}) {
            for (int colour = -1; colour < 8; colour++) {
                due("paint(" + v + ", " + colour + ")", x.paint(v, colour), false);
            }
        }
        for (int colour : new int[] {-2, 8, 9, 256, MIN, MAX}) {
            for (int v = -1; v <= 24; v++) {
                due("paint(" + v + ", " + colour + ")", x.paint(v, colour), false);
            }
        }
        due("PAINTED", x.look(9), 24);
        sentence("paint: v x has that colour (NONE: none): true");
        for (int v = 0; v < 24; v++) {
            due("paint(" + v + ", NONE)", x.paint(v, NONE), true);
            due("PAINTED", x.look(9), 23 - v);
            due("paint(" + v + ", NONE)", x.paint(v, NONE), true);
            due("PAINTED", x.look(9), 23 - v);
        }
    }

    private static void clashes() {
        sentence("CLASHES: EDGES (of section 2) between two that have one colour told");
        RegisterColours x = with(4, 2, 1, "v0=in;v1=in;v2=in;out v0;out v1;out v2;v3=in;out v3;");
        due("none PAINTED", x.graph(2), 0);
        for (int colour = 0; colour < 8; colour++) {
            x.paint(0, colour);
            due("one alone", x.graph(2), 0);
            x.paint(1, colour);
            due("two", x.graph(2), 1);
            x.paint(2, colour);
            due("three", x.graph(2), 3);
            x.paint(3, colour);
            x.paint(20, colour);
            due("one without EDGES, one that is not THERE", x.graph(2), 3);
            x.paint(1, 7 - colour);
            due("another colour", x.graph(2), 1);
            x.paint(0, NONE);
            due("one without a colour", x.graph(2), 0);
            x.paint(1, NONE);
            due("two without a colour", x.graph(2), 0);
            x.paint(2, NONE);
            x.paint(3, NONE);
            x.paint(20, NONE);
        }
        x.paint(0, 1);
        x.paint(1, 1);
        x.paint(0, 9);
        due("a refused one changes nothing", x.graph(2), 1);
    }

    private static void heaviest() {
        sentence("HEAVIEST: the greatest number of VALUES of class A (FIXED, too; pairs twice) LIVE at one STEP");
        due("nothing", new RegisterColours().graph(3), 0);
        due("no STEP reads", with(4, 2, 1, "v0=1;w0=in;goto 3;").graph(3), 0);
        due("class B", with(4, 2, 1, "out w0;out w1;").graph(3), 0);
        due("one", with(4, 2, 1, "v0=1;out v0;").graph(3), 1);
        due("a pair", with(4, 2, 1, "v0=low d0;").graph(3), 2);
        due("all pairs", with(4, 2, 1, "v0=low d0;v0=low d1;v0=low d2;v0=low d3;").graph(3), 8);
        due("r0", with(4, 2, 1, "v0=1;v1=call v0;out v1;").graph(3), 1);
        due("r0 and one over the call", with(4, 2, 1, "v0=1;v1=call v0;out v0;").graph(3), 2);
        due("r0, a pair, one more", with(4, 2, 4, "v1=call v0;v1=low d0;out v2;").graph(3), 4);
        due("at the first STEP", with(4, 2, 1, "if v0<v1 goto 1;").graph(3), 2);
    }

    private static void graphAsked() {
        sentence("graph: NONE for another what");
        RegisterColours x = with(4, 2, 1, RING);
        for (int what : new int[] {-1, 4, 5, 256, MIN, MAX}) {
            due("graph(" + what + ")", x.graph(what), NONE);
        }
    }

    // ---- THE IMAGE ----

    private static final String FIRST = "v0=7;v1=in;v2=call v1;out v0;out v2;w0=in;";

    /** An object of which every part has been told. */
    private static RegisterColours full() {
        RegisterColours x = with(2, 1, 2, FIRST);
        x.input(3, true);
        x.input(MIN, true);
        x.paint(0, 4);
        x.paint(1, 4);
        due("allocate()", x.allocate(), 2);
        return x;
    }

    private static void change(RegisterColours x, int part) {
        switch (part) {
            case 0 -> x.set(0, 5);
            case 1 -> x.set(1, 3);
            case 2 -> x.set(2, 1);
            case 3 -> tell(x, "v5=5;out v5;");
            case 4 -> x.input(9, true);
            case 5 -> x.input(9, false);
            case 6 -> x.paint(0, NONE);
            case 7 -> x.paint(23, 0);
            case 8 -> tell(x, "");
            case 9 -> {
                x.input(0, false);
                x.input(77, true);
                x.input(78, true);
            }
            default -> {
                x.set(1, 2);
                x.allocate();
            }
        }
    }

    private static void imageOfEach() {
        sentence("THE IMAGE: all that is and was told (what ALLOCATE left, too), as it was when it was taken; gone back to it may be more than once");
        RegisterColours x = full();
        due("none yet", x.image(false), false);
        String before = everything(x);
        due("taken", x.image(true), true);
        due("as it was", everything(x), before);
        for (int part = 0; part < 11; part++) {
            change(x, part);
            due("part " + part + " is another", everything(x).equals(before), false);
            due("gone back", x.image(false), true);
            due("part " + part, everything(x), before);
            due("gone back once more", x.image(false), true);
            due("part " + part, everything(x), before);
        }
        for (int part = 0; part < 11; part++) {
            change(x, part);
        }
        x.image(false);
        due("all parts", everything(x), before);
        // From there all goes on.
        due("input", x.input(1, true), 3);
        due("allocate()", x.allocate(), 2);
        due("K", x.set(0, 3), true);
        due("gone", x.look(10), 0);
        x.image(false);
        due("the later steps did not touch it", everything(x), before);
    }

    private static void imageAgain() {
        sentence("image: THE IMAGE is taken (true), or gone back to (false): true; false if there is none");
        RegisterColours x = new RegisterColours();
        String fresh = everything(x);
        due("none", x.image(false), false);
        due("none", x.image(false), false);
        due("as it was", everything(x), fresh);
        due("taken of a new one", x.image(true), true);
        tell(x, FIRST);
        x.set(0, 8);
        x.allocate();
        x.input(4, true);
        x.paint(3, 3);
        String later = everything(x);
        due("back", x.image(false), true);
        due("as new", everything(x), fresh);
        tell(x, FIRST);
        x.set(0, 8);
        x.allocate();
        x.input(4, true);
        x.paint(3, 3);
        due("the same way again", everything(x), later);
        due("taken again", x.image(true), true);
        tell(x, "out w0;");
        x.image(false);
        due("the second one alone is there", everything(x), later);
        // Taken where nothing was left: nothing is left when gone back.
        x.set(0, 7);
        x.image(true);
        x.allocate();
        x.image(false);
        due("nothing left", x.look(10), 0);
        due("left(0)", x.left(0), NONE);
        due("K", x.look(2), 7);
    }

    private static void notInTheImage() {
        sentence("THE IMAGE: all .. but the TAPE and fault()");
        RegisterColours x = full();
        feed(x, "v24=1;");
        due("code()", x.code(), NONE);
        feed(x, "out v1");
        due("taken", x.image(true), true);
        due("the TAPE stays", x.end(6), true);
        feed(x, "?");
        x.code();
        feed(x, "out v1;out v2;");
        due("gone back", x.image(false), true);
        due("fault(0) of the latest code()", x.fault(0), 1);
        due("fault(1)", x.fault(1), 0);
        due("the TAPE of now", taped(x), 14);
        due("code()", x.code(), 2);
        due("gone back", x.image(false), true);
        due("fault(0)", x.fault(0), 0);
        due("the TAPE", taped(x), 0);
        due("LINES", x.look(0), 6);
    }

    private static void toldAnew() {
        sentence("With THE CODE, K, M, CLOBBERED told anew what ALLOCATE left is gone (THE INPUT, what is PAINTED stay)");
        for (int part = 0; part < 9; part++) {
            RegisterColours x = full();
            change(x, part);
            boolean stays = part >= 4 && part <= 7;
            due("part " + part, x.look(10), stays ? 1 : 0);
            due("numbers of THE INPUT, part " + part, x.look(5), part == 4 ? 3 : part == 5 ? 0 : 2);
            due("PAINTED, part " + part, x.look(9), part == 6 ? 1 : part == 7 ? 3 : 2);
            due("proved(), part " + part, x.proved(), stays ? 1 : NONE);
            due("left(0), part " + part, x.left(0), stays ? 2 : NONE);
            due("colour, part " + part, x.colour(8, 1), stays ? 2 : NONE);
            due("step, part " + part, x.step(0, true, 0) == NONE, !stays);
        }
        RegisterColours x = full();
        due("the same text", tell(x, FIRST), 6);
        due("told anew", x.look(10), 0);
        x = full();
        String before = everything(x);
        due("refused K", x.set(0, 9), false);
        due("refused M", x.set(1, 0), false);
        due("refused CLOBBERED", x.set(2, 3), false);
        due("as it was", everything(x), before);
        due("a FAULT", tell(x, "v0=1"), NONE);
        due("it stays", x.look(10), 1);
        due("allocate() again", x.allocate(), 2);
        due("it stays", x.look(10), 1);
    }

    private static void lookAsked() {
        sentence("look: NONE - 99999 for another what");
        for (RegisterColours x : new RegisterColours[] {new RegisterColours(), full()}) {
            for (int what : new int[] {-1, 11, 12, 256, -100000, MIN, MAX}) {
                due("look(" + what + ")", x.look(what), -100000);
            }
        }
        // v0, v1, v2 and w0 are THERE; v1, v2 have an EDGE with v0, and so have r0 and r1.
        row("look(", looks(full()), 6, 8, 2, 1, 2, 2, 4, 4, 2, 2, 1);
    }
}
