/** Promise by promise, with answers worked out by hand from the document. */
public final class PromisesTest extends Asked {
    public static void main(String[] args) {
        newObject();
        setting();
        feeding();
        ending();
        codes();
        faults();
        inputs();
        allocating();
        stepsOfCode();
        stepsLeft();
        liveSets();
        values();
        edges();
        colours();
        coloursOfPairs();
        leftOver();
        leftOverOfClassB();
        optimistic();
        running();
        runningOutOfSteps();
        proving();
        graphs();
        painting();
        images();
        looking();
        endOfTest();
    }

    // ---- 1 to 8 ----

    private static void newObject() {
        sentence("Promise 1");
        RegisterColours x = new RegisterColours();
        due("NONE", RegisterColours.NONE, -1);
        int[] looks = new int[11];
        for (int what = 0; what < 11; what++) {
            looks[what] = x.look(what);
        }
        row("look(", looks, 0, 0, 4, 2, 1, 0, 0, 0, 0, 0, 0);
        due("image(false)", x.image(false), false);
        due("end(0)", x.end(0), true);
        due("end(1)", x.end(1), false);
        due("fault(0)", x.fault(0), 0);
        due("fault(1)", x.fault(1), NONE);
        due("step", x.step(0, false, 0), NONE);
        due("run(0, 0)", x.run(0, 0), 0);
        due("run(0, 1)", x.run(0, 1), 0);
    }

    private static void setting() {
        sentence("Promise 2");
        RegisterColours x = new RegisterColours();
        int[][] wrongOnes = {{0, 1}, {0, 9}, {0, -2}, {1, 0}, {1, 5}, {2, 0}, {2, 5}, {3, 1}, {-1, 4},
            {Integer.MIN_VALUE, 2}, {0, Integer.MAX_VALUE}};
        for (int[] w : wrongOnes) {
            due("set(" + w[0] + ", " + w[1] + ")", x.set(w[0], w[1]), false);
        }
        due("K", x.look(2), 4);
        for (int k = 2; k <= 8; k++) {
            due("set(0, " + k + ")", x.set(0, k), true);
            due("K", x.look(2), k);
        }
        for (int m = 1; m <= 4; m++) {
            due("set(1, " + m + ")", x.set(1, m), true);
            due("M", x.look(3), m);
        }
        due("set(2, 8)", x.set(2, 8), true);
        due("set(0, 8)", x.set(0, 8), true);
        due("CLOBBERED", x.look(4), 8);
        due("set(0, 5)", x.set(0, 5), true);
        due("CLOBBERED", x.look(4), 5);
        due("set(2, 6)", x.set(2, 6), false);
        for (int what = 0; what < 3; what++) {
            due("allocate()", x.allocate(), 1);
            due("set(" + what + ", 9)", x.set(what, 9), false);
            due("still there", x.look(10), 1);
            due("told anew as it was", x.set(what, x.look(2 + what)), true);
            due("gone", x.look(10), 0);
        }
    }

    private static void feeding() {
        sentence("Promise 3");
        RegisterColours x = new RegisterColours();
        // "out " "v23;" "out " "w7; " and five blanks: highest byte first.
        due("feed", x.feed(0x6f757420, 0x7632333b, 0x6f757420, 0x77373b20, 0x20202020), 20);
        due("code()", x.code(), 2);
        due("out v23", x.step(0, false, 2), 31);
        due("out w7", x.step(1, false, 2), 39);
        for (int i = 1; i <= 20; i++) {
            due("feed", x.feed(i, -i, 0, 0x80808080, 7), 20 * i);
        }
        due("feed beyond", x.feed(0, 0, 0, 0, 0), NONE);
        due("end(401)", x.end(401), false);
        due("end(400)", x.end(400), true);
        due("end(381)", x.end(381), true);
        due("feed beyond", x.feed(0, 0, 0, 0, 0), NONE);
        due("end(380)", x.end(380), true);
        due("feed", x.feed(0, 0, 0, 0, 0), 400);
    }

    private static void ending() {
        sentence("Promise 4");
        RegisterColours x = new RegisterColours();
        due("feed", x.feed(0x76303d31, 0x3b76303d, 0x20202020, 0x20202020, 0x20202020), 20);
        due("end(-1)", x.end(-1), false);
        due("end(21)", x.end(21), false);
        due("end(MIN)", x.end(Integer.MIN_VALUE), false);
        due("end(MAX)", x.end(Integer.MAX_VALUE), false);
        due("end(20)", x.end(20), true);
        due("end(5)", x.end(5), true);
        due("end(6)", x.end(6), false);
        due("code()", x.code(), 1);
        due("end(1), empty then", x.end(1), false);
    }

    private static void codes() {
        sentence("Promise 5");
        RegisterColours x = new RegisterColours();
        due("blanks", tell(x, " \n \n"), 0);
        due("code", tell(x, "v0 = 7 ;\n out\nv 0;"), 2);
        due("allocate()", x.allocate(), 1);
        due("a FAULT", tell(x, "v0=8;out d0;"), NONE);
        due("the TAPE is empty", x.end(1), false);
        due("it stays", x.step(0, false, 4), 7);
        due("what ALLOCATE left stays", x.look(10), 1);
        due("40 LINES", tell(x, "v0=v1+v2;".repeat(40)), 40);
        due("what ALLOCATE left is gone", x.look(10), 0);
        due("36 calls", tell(x, "v0=call v1;".repeat(36)), 36);
        due("STEPS", x.look(1), 108);
        due("to the end", tell(x, "goto 2;goto 0;"), 2);
        due("all shapes", tell(x, "v0=0001;w0=9999;v0=in;w0=in;v1=v0;v1=w0;w1=v0;w1=w0;d0=d3;v2=v1+v0;v2=v1-v0;v2=v1*v0;"
            + "w2=w1+w0;w2=w1-w0;w2=w1*w0;d1=v1*v0;v3=call v2;v3=low d1;v3=high d1;if v0<v1 goto 0;if w0<w1 goto 24;"
            + "goto 24;out v23;out w7;"), 24);
        due("empty", tell(x, ""), 0);
        due("LINES", x.look(0), 0);
    }

    private static void faults() {
        sentence("Promise 6");
        String lines = "v0=1;".repeat(40);
        Object[][] table = {
            {"v0=1;x", 1, 5}, {"v0=1", 1, 4}, {"v0=1  ", 1, 6}, {"v", 1, 1}, {";", 1, 0}, {"=", 1, 0}, {"5;", 1, 0},
            {"V0=1;", 1, 0}, {"vv0=1;", 1, 0}, {"ifv0<v1 goto 0;", 1, 0}, {"v0=1\t;", 1, 4}, {"\u00ffv0=1;", 1, 0},
            {"v0=1 2;", 1, 5}, {"v0==1;", 1, 3}, {"v0=12345;", 1, 3}, {"v00000=1;", 1, 1}, {"goto 00000;", 1, 5},
            {"v24=1;", 2, 1}, {"w8=1;", 2, 1}, {"d4=d0;", 2, 1}, {"v0=v0+v24;", 2, 7}, {"goto 41;", 2, 5},
            {"if v0<v0 goto 9999;", 2, 14}, {"d0=5;", 1, 3}, {"d0=in;", 1, 3}, {"d0=call v0;", 1, 3}, {"d0=low d1;", 1, 3},
            {"w0=call v0;", 1, 3}, {"w0=high d0;", 1, 3}, {"v0=out v1;", 1, 3}, {"v0=d0;", 4, 3}, {"w0=d9;", 4, 3},
            {"d0=w0;", 4, 3}, {"d0=v0;", 1, 5}, {"d0=v0+v1;", 1, 5}, {"d0=d1*d2;", 1, 5}, {"d0=v0*w0;", 4, 6},
            {"v0=w0+w1;", 1, 5}, {"w0=v0*v1;", 1, 5}, {"v0=v1*d0;", 4, 6}, {"v0=v1+1;", 1, 6}, {"v0=call w0;", 4, 8},
            {"v0=call 1;", 1, 8}, {"v0=low v1;", 4, 7}, {"v0=high w1;", 4, 8}, {"v0=low", 1, 6}, {"out d0;", 4, 4},
            {"out 5;", 1, 4}, {"if d0<d1 goto 0;", 4, 3}, {"if v0<w0 goto 0;", 4, 6}, {"if w0<v0 goto 0;", 4, 6},
            {"if v0<5 goto 0;", 1, 6}, {"if v0=v1 goto 0;", 1, 5}, {"if v0<v1;", 1, 8}, {"goto v0;", 1, 5},
            {lines + "out v0;", 3, 200}, {lines + "d9", 3, 200}, {lines + ";", 1, 200}, {lines + "in", 1, 200},
            {"goto 2;", 5, 5}, {"goto 1;goto 3;goto 40;goto 4;", 5, 19}, {"goto 9;v0=1;out d0;", 4, 16},
            {"v0=1;\nif w1<w2 goto 3;", 5, 20}, {"v0=in1;", 1, 5}, {"v0=v1v2;", 1, 5}, {"v0=v1<v2;", 1, 5},
        };
        for (Object[] t : table) {
            RegisterColours x = new RegisterColours();
            due("code " + t[0], tell(x, (String) t[0]), NONE);
            due("fault(0) " + t[0], x.fault(0), (Integer) t[1]);
            due("fault(1) " + t[0], x.fault(1), (Integer) t[2]);
            due("fault(2)", x.fault(2), NONE);
            due("fault(-1)", x.fault(-1), NONE);
            due("code()", x.code(), 0);
            due("the latest has none", x.fault(0), 0);
            due("the latest has none", x.fault(1), NONE);
        }
    }

    private static void inputs() {
        sentence("Promise 7");
        RegisterColours x = new RegisterColours();
        for (int i = 1; i <= 16; i++) {
            due("input", x.input(Integer.MIN_VALUE + i, true), i);
        }
        due("the 17th", x.input(1, true), NONE);
        due("still 16", x.look(5), 16);
        due("gone", x.input(99, false), 0);
        due("gone", x.look(5), 0);
        due("input", x.input(-5, true), 1);
        tell(x, "v0=in;out v0;v0=in;out v0;");
        due("-5, then 0", x.run(0, 3), 31 * -5);
        due("another", x.input(8, true), 2);
        due("-5, then 8", x.run(0, 3), 31 * -5 + 8);
    }

    private static void allocating() {
        sentence("Promise 8");
        RegisterColours x = with(4, 1, 1, "w0=in;w1=in;w0=w0+w1;out w0;");
        due("two of class B read at once, M 1: it FAILS", x.allocate(), NONE);
        due("nothing left", x.look(10), 0);
        due("left(0)", x.left(0), NONE);
        due("set(1, 2)", x.set(1, 2), true);
        due("allocate()", x.allocate(), 1);
        due("again", x.allocate(), 1);
        due("K 2: a pair and what is read of it", with(2, 1, 1, "v0=in;d0=v0*v0;v1=low d0;v2=high d0;out v1;out v2;").allocate() > 1, true);
    }

    // ---- 9 ----

    private static void stepsOfCode() {
        sentence("Promise 9");
        RegisterColours x = with(4, 2, 1, "v0=5;w0=in;v1=v0;w1=w0;v2=w1;w2=v2;v3=v0+v1;v4=v3-v1;v5=v4*v3;d0=v4*v5;d1=d0;"
            + "v6=low d1;v7=high d1;v8=call v7;if v6<v8 goto 16;goto 0;out v8;out w2;");
        steps(x, false, new int[][] {
            {0, 8, -1, -1, 5, 10, -1, -1, -1, -1}, {1, 32, -1, -1, -1, 10}, {2, 9, 8, -1, -1, 10}, {2, 33, 32, -1, -1, 10},
            {2, 10, 33, -1, -1, 10}, {2, 34, 10, -1, -1, 10}, {3, 11, 8, 9, -1, 10}, {4, 12, 11, 9, -1, 10},
            {5, 13, 12, 11, -1, 10}, {5, 40, 12, 13, -1, 10}, {2, 41, 40, -1, -1, 10}, {7, 14, 41, -1, -1, 10},
            {8, 15, 41, -1, -1, 10}, {2, 0, 15, -1, -1, 10}, {6, 0, 0, -1, -1, 10}, {2, 16, 0, -1, -1, 10},
            {9, -1, 14, 16, 18, 10}, {10, -1, -1, -1, 0, 10}, {11, -1, 16, -1, -1, 1}, {11, -1, 34, -1, -1, 1, -1, -1, -1, -1},
        });
        due("step(0, false, -1)", x.step(0, false, -1), NONE);
        due("nothing left", x.step(0, true, 0), NONE);
        RegisterColours deep = with(4, 2, 1, "v0=1;" + "if v0<v0 goto 0;".repeat(4) + "goto 5;goto 7;");
        int[] weights = {1000, 1000, 1000, 100, 10, 10, 1};
        for (int i = 0; i < weights.length; i++) {
            due("WEIGHT of " + i, deep.step(i, false, 5), weights[i]);
        }
        due("to the end", deep.step(6, false, 4), 7);
        RegisterColours behindCall = with(4, 2, 1, "goto 2;v0=call v1;goto 1;goto 4;");
        due("a jump behind the call", behindCall.step(0, false, 4), 4);
        due("a jump to the call", behindCall.step(4, false, 4), 1);
        due("a jump to the end", behindCall.step(5, false, 4), 6);
    }

    private static void stepsLeft() {
        sentence("Promise 9");
        // v0 lives over the call, which makes both registers other: it goes into a SLOT.
        RegisterColours x = with(2, 1, 2, "v0=in;v1=in;v2=call v1;out v0;out v2;");
        due("allocate()", x.allocate(), 2);
        steps(x, true, new int[][] {
            {1, 44, -1, -1, -1, -1, 0, -1, -1, -1}, {13, -1, 44, -1, 0, -1, -1, 0, -1}, {1, 9, -1, -1, -1, -1, 0},
            {2, 0, 9, -1, -1, -1, 0, 0, -1}, {6, 0, 0, -1, -1, -1, 0, 0, -1}, {2, 10, 0, -1, -1, -1, 0, 0},
            {12, 45, -1, -1, 0, -1, 1, -1, -1}, {11, -1, 45, -1, -1, -1, -1, 1, -1}, {11, -1, 10, -1, -1, -1, -1, 0, -1},
        });
        // The jump's goal goes out, so the jump goes to the next one.
        x = with(2, 1, 2, "v0=7;v1=in;v2=call v1;out v0;if v2<v0 goto 0;");
        due("allocate()", x.allocate(), 2);
        steps(x, true, new int[][] {
            {1, 9, -1, -1, -1}, {2, 0, 9, -1, -1}, {6, 0, 0, -1, -1}, {2, 10, 0, -1, -1}, {0, 44, -1, -1, 7}, {11, -1, 44, -1, -1},
            {0, 45, -1, -1, 7}, {9, -1, 10, 45, 0},
        });
        // The jump goes to the load ahead of what it went to, not to the STEP itself.
        x = with(2, 1, 2, "v0=in;v1=in;out v0;v1=call v1;goto 2;");
        due("allocate()", x.allocate(), 2);
        due("a load", x.step(3, true, 0), 12);
        due("the jump", x.step(8, true, 0), 10);
        due("to the load", x.step(8, true, 4), 3);
    }

    // ---- 10 to 12 ----

    private static final String LOOP = "v0=in;v1=in;v1=v1-v0;if v0<v1 goto 2;out v1;";

    private static void liveSets() {
        sentence("Promise 10");
        RegisterColours x = with(4, 2, 2, LOOP);
        int[][] due = {{0, 0}, {1, 0}, {1, 1}, {1, 1}, {0, 1}};
        for (int i = 0; i < due.length; i++) {
            due("live(" + i + ", v0)", x.live(i, 8), due[i][0]);
            due("live(" + i + ", v1)", x.live(i, 9), due[i][1]);
        }
        due("live behind all", x.live(5, 8), NONE);
        due("live(-1, 8)", x.live(-1, 8), NONE);
        due("live(0, 44)", x.live(0, 44), NONE);
        due("live(0, -1)", x.live(0, -1), NONE);
        due("live(0, 4)", x.live(0, 4), NONE);
        due("live(0, 7)", x.live(0, 7), NONE);
        due("live(0, 3)", x.live(0, 3), 0);
        x = with(4, 2, 2, "v0=call v1;out v0;");
        due("v1 from the beginning", x.live(0, 9), 1);
        due("r0 ahead of what makes it", x.live(0, 0), 0);
        due("r0 ahead of CALL", x.live(1, 0), 1);
        due("r0 ahead of X = r0", x.live(2, 0), 1);
        due("r0 behind", x.live(3, 0), 0);
        due("r1 is made, never read", x.live(1, 1), 0);
    }

    private static void values() {
        sentence("Promise 11");
        RegisterColours x = with(4, 2, 2, LOOP);
        int[] got = new int[5];
        int[][] rows = {{8, 1, 21, 1, 4, 0}, {9, 1, 32, 1, 4, 0}, {10, 0, 0, 0, 4, 0}, {32, 0, 0, 0, 2, 0}, {40, 0, 0, 0, 2, 0},
            {0, 1, 0, 3, 4, 1}, {3, 1, 0, 3, 4, 1}, {4, -1, -1, -1, -1, -1}, {7, -1, -1, -1, -1, -1},
            {-1, -1, -1, -1, -1, -1}, {44, -1, -1, -1, -1, -1}};
        for (int[] r : rows) {
            for (int what = 0; what < 5; what++) {
                got[what] = x.value(r[0], what);
            }
            row("value(" + r[0] + ", ", got, r[1], r[2], r[3], r[4], r[5]);
        }
        due("value(8, 5)", x.value(8, 5), NONE);
        due("value(8, -1)", x.value(8, -1), NONE);
        x = with(3, 2, 1, "v0=in;out v0;");
        due("LIMIT of a pair, K 3", x.value(40, 3), 1);
        due("K 3: r3 is not", x.value(3, 0), NONE);
        x = with(4, 2, 3, "v1=call v0;v2=v1+v1;");
        due("COST of r0", x.value(0, 1), 4);
        due("COST of r2", x.value(2, 1), 1);
        due("COST of r3", x.value(3, 1), 0);
        due("COST of one that stands twice", x.value(9, 1), 3);
        x = with(4, 2, 1, PAIRS);
        due("DEGREE of v0: a pair counts twice", x.value(8, 2), 3);
        due("DEGREE of d0: each once", x.value(40, 2), 3);
        due("d0 is HEAVY", x.value(40, 4), 1);
        due("v2", x.value(10, 2), 3);
        due("v2 is not HEAVY", x.value(10, 4), 0);
    }

    private static final String PAIRS = "v0=in;v1=in;d0=v0*v1;d1=v1*v0;v2=low d0;v3=high d1;out v2;out v3;";

    private static void edges() {
        sentence("Promise 12");
        RegisterColours x = with(4, 2, 1, PAIRS);
        int[] are = {8, 9, 40, 8, 40, 9, 41, 40, 10, 41, 11, 10};
        for (int i = 0; i < are.length; i += 2) {
            due("edge", x.edge(are[i], are[i + 1]), 1);
            due("edge the other way", x.edge(are[i + 1], are[i]), 1);
        }
        due("EDGES", x.look(7), 6);
        due("with itself", x.edge(8, 8), 0);
        due("of FIXED", x.edge(0, 3), 1);
        due("edge(4, 8)", x.edge(4, 8), NONE);
        due("edge(8, 44)", x.edge(8, 44), NONE);
        due("edge(-1, 8)", x.edge(-1, 8), NONE);
        x = with(4, 2, 1, "v0=in;w0=in;w1=in;out v0;out w0;out w1;");
        due("v and w", x.edge(8, 32), 0);
        due("w and w", x.edge(33, 32), 1);
        due("what is moved", with(4, 2, 1, "v0=in;v1=v0;out v0;out v1;").edge(8, 9), 0);
        due("what is moved, but made again", with(4, 2, 1, "w0=in;w1=w0;w1=in;out w0;out w1;").edge(32, 33), 1);
        due("made again later", with(4, 2, 1, "v0=in;v1=v0;v0=in;out v0;out v1;").edge(8, 9), 1);
        x = with(4, 2, 2, "v0=in;v1=in;v2=call v1;out v0;out v2;");
        int[][] rows = {{0, 8, 1}, {1, 8, 1}, {2, 8, 0}, {0, 9, 0}, {0, 10, 0}, {1, 10, 0}, {10, 8, 1}, {9, 8, 1}, {9, 10, 0}};
        for (int[] r : rows) {
            due("edge(" + r[0] + ", " + r[1] + ")", x.edge(r[0], r[1]), r[2]);
        }
    }

    // ---- 13, 14 ----

    private static void colours() {
        sentence("Promise 13");
        RegisterColours x = with(4, 2, 1, "v0=in;v1=in;v2=call v1;out v0;out v2;");
        due("nothing left yet", x.colour(8, 0), NONE);
        due("nothing left yet", x.colour(8, 1), NONE);
        due("allocate()", x.allocate(), 1);
        int[][] rows = {{8, 1, 0, 8}, {9, 0, 0, 0}, {10, 0, 0, 0}, {0, 0, 0, 0}, {3, 3, 0, 3}, {11, -1, 0, -1}, {44, -1, 0, -1},
            {199, -1, 0, -1}, {4, -1, -1, -1}, {7, -1, -1, -1}, {200, -1, -1, -1}, {-1, -1, -1, -1}};
        for (int[] r : rows) {
            for (int what = 0; what < 3; what++) {
                due("colour(" + r[0] + ", " + what + ")", x.colour(r[0], what), r[1 + what]);
            }
        }
        due("colour(8, 3)", x.colour(8, 3), NONE);
        due("colour(8, -1)", x.colour(8, -1), NONE);
        x = with(2, 1, 2, "v0=in;v1=in;v2=call v1;out v0;out v2;");
        x.allocate();
        row("colour(8, ", new int[] {x.colour(8, 0), x.colour(8, 1), x.colour(8, 2)}, -1, 1, -1);
        row("colour(44, ", new int[] {x.colour(44, 0), x.colour(44, 1), x.colour(44, 2)}, 0, 0, 44);
        row("colour(45, ", new int[] {x.colour(45, 0), x.colour(45, 1), x.colour(45, 2)}, 1, 0, 45);
        x = with(2, 1, 2, "v0=7;v1=in;v2=call v1;out v0;out v2;");
        x.allocate();
        due("made anew", x.colour(8, 1), 2);
        due("not THERE any more", x.colour(8, 0), NONE);
    }

    private static void coloursOfPairs() {
        sentence("Promise 13");
        RegisterColours x = with(4, 2, 1, PAIRS);
        due("allocate()", x.allocate(), 1);
        row("colours ", new int[] {x.colour(40, 0), x.colour(41, 0), x.colour(8, 0), x.colour(9, 0), x.colour(10, 0),
            x.colour(11, 0)}, 1, 0, 1, 0, 2, 0);
        due("registers of class A", x.left(8), 4);
        due("the pair of d0", x.step(2, true, 6), 1);
        due("what v2 is read of", x.step(4, true, 7), 1);
        due("high of d1", x.step(5, true, 7), 0);
    }

    private static void leftOver() {
        sentence("Promise 14");
        RegisterColours x = with(4, 2, 1, "v0=in;v1=in;v2=call v1;out v0;out v2;");
        due("nothing yet", x.left(0), NONE);
        x.allocate();
        row("left(", lefts(x), 1, 7, 0, 0, 0, 2, 2, 2, 2, 0, 0, 0);
        due("left(12)", x.left(12), NONE);
        due("left(-1)", x.left(-1), NONE);
        x = with(2, 1, 2, "v0=in;v1=in;v2=call v1;out v0;out v2;");
        x.allocate();
        row("left(", lefts(x), 2, 9, 1, 1, 0, 2, 2, 2, 2, 0, 2, 0);
        x = with(2, 1, 2, "v0=7;v1=in;v2=call v1;out v0;out v2;");
        x.allocate();
        row("left(", lefts(x), 2, 7, 0, 1, 1, 2, 2, 2, 2, 0, 2, 0);
        x.set(1, 2);
        due("gone", x.left(0), NONE);
    }

    private static void leftOverOfClassB() {
        sentence("Promise 14");
        String text = "w0=in;w1=in;w2=w0;out w1;out w2;";
        RegisterColours x = with(4, 2, 1, text);
        due("M 2: merged", x.allocate(), 1);
        row("left(", lefts(x), 1, 5, 0, 0, 0, 1, 1, 1, 0, 2, 0, 0);
        due("node of w2", x.colour(34, 2), 32);
        x = with(4, 1, 1, text);
        // Not SAFE with M 1: w1 goes in ROUND 1, w0 and w2 in ROUND 2.
        due("M 1", x.allocate(), 3);
        row("left(", lefts(x), 3, 11, 3, 3, 0, 1, 1, 1, 0, 1, 6, 0);
        steps(x, true, new int[][] {
            {1, 46, -1, -1, -1}, {13, -1, 46, -1, 1}, {1, 44, -1, -1, -1}, {13, -1, 44, -1, 0}, {12, 47, -1, -1, 1},
            {2, 48, 47, -1, -1}, {13, -1, 48, -1, 2}, {12, 45, -1, -1, 0}, {11, -1, 45, -1, -1}, {12, 49, -1, -1, 2},
            {11, -1, 49, -1, -1},
        });
        due("node of 48", x.colour(48, 2), 47);
    }

    private static final String RING = "v0=in;v1=in;out v0;v2=in;out v1;v3=in;out v2;v0=in;out v3;if v0<v0 goto 1;";

    private static void optimistic() {
        sentence("Promise 14");
        RegisterColours x = with(2, 1, 1, RING);
        due("allocate()", x.allocate(), 1);
        due("HEAVY, yet coloured", x.left(11), 1);
        row("colours ", new int[] {x.colour(8, 0), x.colour(9, 0), x.colour(10, 0), x.colour(11, 0)}, 1, 0, 1, 0);
    }

    // ---- 15, 16 ----

    private static void running() {
        sentence("Promise 15");
        RegisterColours x = with(4, 2, 1, "v0=in;v1=in;v2=call v1;out v0;out v2;");
        x.input(4, true);
        x.input(5, true);
        due("nothing left", x.run(1, 0), NONE);
        x.allocate();
        for (int which = 0; which < 2; which++) {
            row("run(" + which + ", ", new int[] {x.run(which, 0), x.run(which, 1), x.run(which, 2), x.run(which, 3)}, 0, 7, 2, 31 * 4 + 38);
        }
        int[][] none = {{-1, 0}, {2, 0}, {0, -1}, {0, 4}, {1, 4}, {1, -1}};
        for (int[] n : none) {
            due("run(" + n[0] + ", " + n[1] + ")", x.run(n[0], n[1]), NONE);
        }
        x = with(4, 2, 1, PAIRS);
        x.input(-3, true);
        x.input(5, true);
        x.allocate();
        due("64 bits of -15", x.run(0, 3), 31 * -15 - 1);
        due("64 bits of -15 by registers", x.run(1, 3), 31 * -15 - 1);
        x = with(4, 2, 1, "v0=9999;v1=v0*v0;v2=v1*v1;out v2;w0=v2;w1=w0*w0;out w1;v3=v4-v2;out v3;");
        x.allocate();
        int square = 9999 * 9999 * (9999 * 9999);
        int due = 31 * (31 * square + square * square) - square;
        due("wrapping", x.run(0, 3), due);
        due("wrapping by registers", x.run(1, 3), due);
        x.input(7, true);
        due("told behind the run", tell(x, "v0=in;out v0;"), 1 + 1);
        due("a run anew", x.run(0, 3), 7);
        due("a run of nothing left", x.run(1, 3), NONE);
    }

    private static void runningOutOfSteps() {
        sentence("Promise 15");
        String text = "v0=0;v1=1;v2=998;v0=v0+v1;if v0<v2 goto 3;out v0;";
        RegisterColours x = with(4, 2, 1, text);
        x.allocate();
        row("2000 STEPS, at the end ", new int[] {x.run(0, 0), x.run(0, 1), x.run(0, 2), x.run(0, 3)}, 0, 2000, 1, 998);
        x = with(4, 2, 1, text.replace("998", "999"));
        x.allocate();
        row("2002 STEPS would be ", new int[] {x.run(1, 0), x.run(1, 1), x.run(1, 2), x.run(1, 3)}, 1, 2000, 0, 0);
        x = with(4, 2, 1, "goto 0;");
        row("for ever ", new int[] {x.run(0, 0), x.run(0, 1), x.run(0, 2)}, 1, 2000, 0);
        // v2 is never made, so it is 0, though the call makes all registers other.
        x = with(4, 2, 4, "v0=call v1;out v2;out v0;");
        x.allocate();
        due("0, then 3", x.run(1, 3), 3);
        x = with(8, 4, 8, "v1=in;v0=call v1;v3=call v0;out v3;");
        x.input(1, true);
        x.allocate();
        due("7 * 10 and 3", x.run(1, 3), 73);
    }

    private static void proving() {
        sentence("Promise 16");
        RegisterColours x = new RegisterColours();
        due("nothing left", x.proved(), NONE);
        String[] texts = {"", LOOP, PAIRS, RING, "out v0;out v1;v0=v1;out v0;goto 0;", "d0=d1;v0=low d0;out v0;d1=v0*v0;goto 0;",
            "v0=in;v1=call v0;v2=call v1;if v0<v2 goto 1;out v1;"};
        for (String text : texts) {
            for (int k = 2; k <= 8; k++) {
                x = with(k, 2, k, text);
                if (x.allocate() != NONE) {
                    due("proved() of " + text, x.proved(), 1);
                    due("once more", x.proved(), 1);
                }
            }
        }
        x.set(2, 1);
        due("gone", x.proved(), NONE);
    }

    // ---- 17 to 20 ----

    private static void graphs() {
        sentence("Promise 17");
        RegisterColours x = with(2, 1, 1, RING);
        row("graph(", new int[] {x.graph(0), x.graph(1), x.graph(2), x.graph(3)}, 0, NONE, 0, 2);
        x = with(4, 2, 1, PAIRS);
        row("graph(", new int[] {x.graph(0), x.graph(1), x.graph(2), x.graph(3)}, 1, 2, 0, 4);
        due("graph(4)", x.graph(4), NONE);
        due("graph(-1)", x.graph(-1), NONE);
        x = with(4, 2, 1, "w0=in;out w0;");
        row("graph(", new int[] {x.graph(0), x.graph(1), x.graph(2), x.graph(3)}, 1, 0, 0, 0);
        x = with(4, 2, 1, "v0=in;");
        due("one alone", x.graph(1), 1);
        x = with(4, 2, 4, "v0=in;v2=call v0;out v0;out v2;");
        due("FIXED count among the LIVE", x.graph(3), 2);
        due("FIXED are not coloured here", x.graph(1), 2);
    }

    private static void painting() {
        sentence("Promise 18");
        RegisterColours x = with(4, 2, 1, PAIRS);
        int[][] wrongOnes = {{24, 0}, {-1, 0}, {0, 8}, {0, -2}, {Integer.MAX_VALUE, 0}, {0, Integer.MIN_VALUE}};
        for (int[] w : wrongOnes) {
            due("paint", x.paint(w[0], w[1]), false);
        }
        int[][] told = {{0, 2}, {1, 2}, {2, 5}, {3, 5}, {23, 7}};
        for (int[] t : told) {
            due("paint", x.paint(t[0], t[1]), true);
        }
        due("PAINTED", x.look(9), 5);
        due("CLASHES", x.graph(2), 2);
        due("paint", x.paint(3, 2), true);
        due("CLASHES", x.graph(2), 1);
        due("paint", x.paint(1, NONE), true);
        due("paint", x.paint(1, NONE), true);
        due("PAINTED", x.look(9), 4);
        due("CLASHES", x.graph(2), 0);
        x.paint(1, 2);
        tell(x, "v0=in;v1=in;v2=in;v3=in;out v0;out v1;out v2;out v3;");
        due("what is PAINTED stays; CLASHES of 0, 1, 3", x.graph(2), 3);
    }

    private static void images() {
        sentence("Promise 19");
        RegisterColours x = with(2, 1, 2, "v0=7;v1=in;v2=call v1;out v0;out v2;");
        due("none yet", x.image(false), false);
        x.input(3, true);
        x.paint(4, 4);
        x.allocate();
        due("taken", x.image(true), true);
        for (int time = 0; time < 2; time++) {
            x.set(0, 8);
            x.set(1, 4);
            x.input(0, false);
            x.paint(4, NONE);
            x.paint(5, 1);
            due("another code", tell(x, "v0=1;"), 1);
            due("allocate()", x.allocate(), 1);
            due("a FAULT", tell(x, "v0=1"), NONE);
            x.feed(0, 0, 0, 0, 0);
            due("of the other code", x.edge(1, 8), 0);
            due("of the other code", x.run(1, 1), 1);
            due("gone back", x.image(false), true);
            due("the TAPE stays", x.end(20), true);
            due("fault() stays", x.fault(1), 4);
            int[] looks = new int[11];
            for (int what = 0; what < 11; what++) {
                looks[what] = x.look(what);
            }
            row("look(", looks, 5, 7, 2, 1, 2, 1, 3, x.look(7), 2, 1, 1);
            row("left(", lefts(x), 2, 7, 0, 1, 1, 2, 2, 2, 2, 0, 2, 0);
            due("run(1, 3)", x.run(1, 3), 31 * 7 + 24);
            due("run(0, 3)", x.run(0, 3), 31 * 7 + 24);
            due("made anew", x.colour(8, 1), 2);
            due("proved()", x.proved(), 1);
            due("edge", x.edge(1, 8), 1);
        }
        x.set(0, 4);
        due("taken with nothing left", x.image(true), true);
        x.allocate();
        due("gone back", x.image(false), true);
        due("nothing left", x.look(10), 0);
        due("nothing left", x.colour(8, 0), NONE);
    }

    private static void looking() {
        sentence("Promise 20");
        RegisterColours x = with(5, 3, 2, "v0=in;v1=in;v2=call v1;w0=v0;d0=v0*v2;d1=d0;d1=d1;out w0;");
        x.input(1, true);
        x.paint(0, 0);
        int[] looks = new int[11];
        for (int what = 0; what < 11; what++) {
            looks[what] = x.look(what);
        }
        // EDGES: v1-v0, r0-v0, r1-v0, v2-v0; d0, d1 meet no other that is LIVE behind.
        row("look(", looks, 8, 10, 5, 3, 2, 1, 6, 4, 4, 1, 0);
        x.allocate();
        due("look(10)", x.look(10), 1);
        due("look(11)", x.look(11), -100000);
        due("look(-1)", x.look(-1), -100000);
    }
}
