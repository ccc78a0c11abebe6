/** Sections 2 and 3 and promises 8 to 14, sentence by sentence where they name a bound. */
public final class BoundsOfRoundsTest extends Asked {
    public static void main(String[] args) {
        stepsOfCalls();
        numbersOfValues();
        fixedBelowK();
        liveAhead();
        depths();
        edgesOfWhatIsMade();
        edgesAtMoves();
        edgesOfClasses();
        edgesOfFixedAndCalls();
        costs();
        valuesThere();
        degrees();
        heavyOfClassA();
        heavyOfClassesBAndD();
        movesByWeight();
        movesAgainAndAgain();
        safeOfTwoNotFixed();
        safeCountsPairsTwice();
        safeWithFixed();
        mergedNodes();
        layingTheLeast();
        colouringTheLeast();
        pairsOfRegisters();
        madeAnew();
        slotsNotAnew();
        movesOfSpilledGoOut();
        loadsInOrder();
        onceForTwoPlaces();
        jumpsToWhatIsThere();
        pairsInSlots();
        eighthRound();
        failing();
        stepAsked();
        colourAsked();
        leftAsked();
        registersCounted();
        endOfTest();
    }

    /** A text of n VALUES of one letter, all LIVE at once. */
    private static String together(char letter, int n) {
        StringBuilder text = new StringBuilder();
        for (int i = 0; i < n; i++) {
            text.append(letter).append(i).append("=in;");
        }
        for (int i = 0; i < n; i++) {
            text.append("out ").append(letter).append(i).append(';');
        }
        return text.toString();
    }

    // ---- section 2 ----

    private static void stepsOfCalls() {
        sentence("LINE by LINE one STEP each, but of X = call Y three. A jump to a LINE goes to the first of its STEPS");
        RegisterColours x = with(4, 2, 1, "v0=call v1;v2=call v2;goto 0;goto 1;goto 2;goto 4;goto 6;");
        due("LINES", x.look(0), 7);
        due("STEPS", x.look(1), 11);
        steps(x, false, new int[][] {
            {2, 0, 9, -1, -1}, {6, 0, 0, -1, -1}, {2, 8, 0, -1, -1}, {2, 0, 10, -1, -1}, {6, 0, 0, -1, -1}, {2, 10, 0, -1, -1},
            {10, -1, -1, -1, 0}, {10, -1, -1, -1, 3}, {10, -1, -1, -1, 6}, {10, -1, -1, -1, 8}, {10, -1, -1, -1, 10},
        });
        due("to the end", with(4, 2, 1, "goto 2;v0=call v1;").step(0, false, 4), 4);
    }

    private static void numbersOfValues() {
        sentence("VALUES have numbers: r0 .. r7 0 .. 7, v0 .. 8 .. 31, w0 .. 32 .. 39, d0 .. 40 .. 43");
        RegisterColours x = with(8, 4, 8, "v0=v23;w0=w7;d0=d3;v0=call v23;");
        steps(x, false, new int[][] {{2, 8, 31}, {2, 32, 39}, {2, 40, 43}, {2, 0, 31}, {6, 0, 0}, {2, 8, 0}});
        sentence("value: VALUE x (0 .. 43)");
        due("LIMIT of 31", x.value(31, 3), 8);
        due("LIMIT of 32", x.value(32, 3), 4);
        due("LIMIT of 39", x.value(39, 3), 4);
        due("LIMIT of 40", x.value(40, 3), 4);
        due("LIMIT of 43", x.value(43, 3), 4);
        for (int not : new int[] {44, 199, 200, -1, Integer.MIN_VALUE, Integer.MAX_VALUE}) {
            for (int what = 0; what < 5; what++) {
                due("value(" + not + ", " + what + ")", x.value(not, what), NONE);
            }
        }
        sentence("those that are made in ROUNDS from 44 on, as they come");
        x = with(3, 1, 3, "v0=in;v1=in;v2=call v3;v4=v1-v0;out v4;out v2;");
        x.allocate();
        int[][] makers = {{0, 44}, {2, 45}, {7, 46}, {8, 47}};
        for (int[] m : makers) {
            due("STEP " + m[0], x.step(m[0], true, 1), m[1]);
        }
    }

    private static void fixedBelowK() {
        sentence("r0 .. r7 0 .. 7 (FIXED; those below K there are)");
        for (int k = 2; k <= 8; k++) {
            RegisterColours x = with(k, 2, 1, "v0=in;out v0;");
            x.allocate();
            for (int r = 0; r < 8; r++) {
                boolean there = r < k;
                due("value(" + r + ", 0), K " + k, x.value(r, 0), there ? 1 : NONE);
                due("value(" + r + ", 2), K " + k, x.value(r, 2), there ? k - 1 : NONE);
                due("value(" + r + ", 4), K " + k, x.value(r, 4), there ? 1 : NONE);
                due("live(0, " + r + "), K " + k, x.live(0, r), there ? 0 : NONE);
                due("edge(8, " + r + "), K " + k, x.edge(8, r), there ? 0 : NONE);
                due("edge(" + r + ", 8), K " + k, x.edge(r, 8), there ? 0 : NONE);
                due("edge(" + r + ", 0), K " + k, x.edge(r, 0), !there ? NONE : r == 0 ? 0 : 1);
                row("colour(" + r + ", ", new int[] {x.colour(r, 0), x.colour(r, 1), x.colour(r, 2)},
                    there ? r : NONE, there ? 0 : NONE, there ? r : NONE);
            }
        }
    }

    private static void liveAhead() {
        sentence("LIVE at a STEP (ahead of it): what is read there, or LIVE at a STEP that can follow and is not made there");
        RegisterColours x = with(4, 2, 2, "v0=v0+v1;goto 3;out v2;if w0<w1 goto 5;out v3;out v0;");
        String[] due = {"v0 v1 w0 w1 v3", "v0 w0 w1 v3", "v2 w0 w1 v3 v0", "w0 w1 v3 v0", "v3 v0", "v0"};
        for (int i = 0; i < due.length; i++) {
            for (int v = 8; v < 44; v++) {
                String name = v < 32 ? "v" + (v - 8) : v < 40 ? "w" + (v - 32) : "d" + (v - 40);
                due("live(" + i + ", " + name + ")", x.live(i, v), (" " + due[i] + " ").contains(" " + name + " ") ? 1 : 0);
            }
        }
        sentence("live: NONE if there is none such");
        for (int i : new int[] {-1, 6, 400, Integer.MIN_VALUE, Integer.MAX_VALUE}) {
            due("live(" + i + ", 8)", x.live(i, 8), NONE);
        }
        for (int v : new int[] {-1, 4, 5, 6, 7, 44, 199, Integer.MIN_VALUE, Integer.MAX_VALUE}) {
            due("live(0, " + v + ")", x.live(0, v), NONE);
        }
        due("live(5, 43)", x.live(5, 43), 0);
        due("live(5, 0)", x.live(5, 0), 0);
        // Round the loop: what LINE 0 reads is LIVE behind the jump, too.
        x = with(4, 2, 2, "out v0;v1=in;if v1<v1 goto 0;");
        due("v0 at the jump", x.live(2, 8), 1);
        due("v1 ahead", x.live(1, 9), 0);
    }

    private static void depths() {
        sentence("DEPTH of a STEP: how many jumps at STEPS j to STEPS t, t not above j, have it between (t .. j), 3 at most; WEIGHT: 1, 10, 100, 1000");
        String[] texts = {"goto 0;", "goto 1;", "goto 1;goto 1;", "out v0;goto 0;out v0;", "if v0<v1 goto 0;if v0<v1 goto 0;if v0<v1 goto 0;goto 0;",
            "goto 0;goto 0;goto 0;goto 0;goto 0;out v0;", "goto 2;goto 3;goto 4;goto 4;", "out v0;v0=call v1;goto 1;out v0;",
            "out v0;if w0<w0 goto 1;out v0;goto 1;out v0;goto 1;goto 7;"};
        int[][] weights = {{10}, {1}, {1, 10}, {10, 10, 1}, {1000, 1000, 100, 10}, {1000, 1000, 1000, 100, 10, 1}, {1, 1, 1, 1},
            {1, 10, 10, 10, 10, 1}, {1, 1000, 100, 100, 10, 10, 1}};
        for (int t = 0; t < texts.length; t++) {
            RegisterColours x = with(4, 2, 1, texts[t]);
            for (int i = 0; i < weights[t].length; i++) {
                due("WEIGHT of " + i + " in " + texts[t], x.step(i, false, 5), weights[t][i]);
            }
        }
    }

    private static void edgesOfWhatIsMade() {
        sentence("EDGES: between what is made at a STEP and each other VALUE that is LIVE behind it (at one that can follow)");
        RegisterColours x = with(4, 2, 1, "v0=in;v1=in;out v0;out v2;");
        // v1 is made and never read; v2 is read and never made.
        due("v1, v0", x.edge(9, 8), 1);
        due("v1, v2", x.edge(9, 10), 1);
        due("v0, v2", x.edge(8, 10), 1);
        due("EDGES", x.look(7), 3);
        x = with(4, 2, 1, "out v0;out v1;out v2;");
        due("LIVE together, but none is made", x.look(7), 0);
        x = with(4, 2, 1, "v0=v1+v2;out v0;");
        due("what is read there ends there", x.look(7), 0);
        x = with(4, 2, 1, "v0=in;if v0<v0 goto 3;out v1;out v2;");
        due("by the way that jumps", x.edge(8, 10), 1);
        due("by the way that does not", x.edge(8, 9), 1);
        x = with(4, 2, 1, "v0=in;goto 3;out v1;out v2;");
        due("behind the jump", x.edge(8, 10), 1);
        due("passed over", x.edge(8, 9), 0);
        sentence("edge: whether there is an EDGE (1, 0). NONE if there is none such");
        for (int not : new int[] {-1, 4, 7, 44, 199, Integer.MIN_VALUE, Integer.MAX_VALUE}) {
            due("edge(" + not + ", 8)", x.edge(not, 8), NONE);
            due("edge(8, " + not + ")", x.edge(8, not), NONE);
            due("edge(" + not + ", " + not + ")", x.edge(not, not), NONE);
        }
        for (int v = 0; v < 44; v++) {
            due("edge(" + v + ", itself)", x.edge(v, v), v >= 4 && v < 8 ? NONE : 0);
        }
    }

    private static void edgesAtMoves() {
        sentence("but, at a MOVE, for the VALUE that is moved");
        String rest = "out v0;out v1;out w0;out w1;v2=low d0;v2=low d1;";
        due("v", with(4, 2, 1, "v1=v0;" + rest).edge(8, 9), 0);
        due("w", with(4, 2, 1, "w1=w0;" + rest).edge(32, 33), 0);
        due("d", with(4, 2, 1, "d1=d0;" + rest).edge(40, 41), 0);
        due("others that are LIVE", with(4, 2, 1, "v1=v0;out v0;out v3;").edge(9, 11), 1);
        due("no MOVE, though it reads it", with(4, 2, 1, "v1=v0+v0;out v0;").edge(8, 9), 1);
        due("the second that is read", with(4, 2, 1, "v1=v2-v0;out v0;").edge(8, 9), 1);
        // Another STEP that makes it while the other is LIVE brings the EDGE all the same.
        due("made another way, too", with(4, 2, 1, "v1=v0;v1=in;out v0;").edge(8, 9), 1);
    }

    private static void edgesOfClasses() {
        sentence("if their classes have registers in common (A and D have; B alone)");
        RegisterColours x = with(4, 2, 1, "v0=in;w0=in;d0=d1;w1=in;v1=in;out v0;out v1;out w0;out w1;v2=low d0;");
        int[][] table = {{8, 40, 1}, {9, 40, 1}, {8, 9, 1}, {32, 33, 1}, {8, 32, 0}, {8, 33, 0}, {9, 32, 0}, {40, 32, 0}, {40, 33, 0}, {8, 41, 1}};
        for (int[] t : table) {
            due("edge(" + t[0] + ", " + t[1] + ")", x.edge(t[0], t[1]), t[2]);
            due("edge(" + t[1] + ", " + t[0] + ")", x.edge(t[1], t[0]), t[2]);
        }
        x = with(4, 2, 1, "d0=v0*v0;d1=v0*v0;v1=low d0;v1=low d1;");
        due("D and D", x.edge(40, 41), 1);
        x = with(4, 2, 2, "w0=in;v0=call v0;d0=v0*v0;v0=call v0;out w0;v1=low d0;");
        due("FIXED and B", x.edge(0, 32), 0);
        due("FIXED and D", x.edge(0, 40), 1);
        due("FIXED and D", x.edge(1, 40), 1);
        due("not CLOBBERED", x.edge(2, 40), 0);
    }

    private static void edgesOfFixedAndCalls() {
        sentence("between all FIXED. (What CALL makes likewise, each)");
        for (int k = 2; k <= 8; k++) {
            for (int c = 1; c <= k; c++) {
                RegisterColours x = with(k, 1, c, "v0=in;v2=call v1;out v0;");
                for (int i = 0; i < 5; i++) {
                    due("v0 at STEP " + i, x.live(i, 8), i == 0 ? 0 : 1);
                    due("v1 at STEP " + i, x.live(i, 9), i < 2 ? 1 : 0);
                    due("r0 at STEP " + i, x.live(i, 0), i == 2 || i == 3 ? 1 : 0);
                    due("r1 at STEP " + i, x.live(i, 1), 0);
                }
                for (int r = 0; r < k; r++) {
                    for (int q = 0; q < k; q++) {
                        due("edge(" + r + ", " + q + ")", x.edge(r, q), r == q ? 0 : 1);
                    }
                    due("v0 lives over the call, CLOBBERED " + c, x.edge(r, 8), r < c ? 1 : 0);
                    due("v1 ends there", x.edge(r, 9), 0);
                    due("v2 begins there", x.edge(r, 10), 0);
                    due("DEGREE of r" + r, x.value(r, 2), k - 1 + (r < c ? 1 : 0));
                }
                // Of these v0 has v1, v2 and what is CLOBBERED.
                due("EDGES but those of two FIXED", x.look(7), c + 2);
            }
        }
    }

    private static void costs() {
        sentence("COST of a VALUE: for each STEP that reads it (once for each place where it stands), and each that makes it, its WEIGHT, together");
        RegisterColours x = with(4, 2, 3, "v0=v0*v0;out v1;v1=v0-v1;v2=call v2;");
        int[][] table = {{8, 4}, {9, 3}, {10, 2}, {0, 4}, {1, 1}, {2, 1}, {3, 0}, {11, 0}, {32, 0}, {43, 0}};
        for (int[] t : table) {
            due("COST of " + t[0], x.value(t[0], 1), t[1]);
        }
        x = with(4, 2, 3, "v0=v0*v0;if v0<v0 goto 0;v1=call v0;if w0<w1 goto 2;if w0<w1 goto 2;if w0<w1 goto 2;if w0<w1 goto 2;");
        int[][] loops = {{8, 50 + 1000}, {9, 1000}, {0, 4000}, {2, 1000}, {32, 1000 + 100 + 10 + 1000}, {33, 2110}};
        for (int[] t : loops) {
            due("COST of " + t[0], x.value(t[0], 1), t[1]);
        }
    }

    private static void valuesThere() {
        sentence("VALUES are THERE that are read or made at a STEP, and the FIXED");
        RegisterColours x = with(3, 2, 2, "v0=1;out v23;w7=in;d3=d1;goto 5;");
        for (int v = 0; v < 44; v++) {
            boolean there = v < 3 || v == 8 || v == 31 || v == 39 || v == 43 || v == 41;
            due("value(" + v + ", 0)", x.value(v, 0), v >= 3 && v < 8 ? NONE : there ? 1 : 0);
        }
        due("VALUES THERE (not FIXED)", x.look(6), 5);
        for (int k = 2; k <= 8; k++) {
            x = with(k, 2, k, "v1=call v1;");
            row("K " + k + " ", new int[] {x.value(k - 1, 0), x.value(8, 0), x.value(9, 0), x.look(6)}, 1, 0, 1, 1);
        }
    }

    private static void degrees() {
        sentence("DEGREE of a node of class A: its neighbours, those of class D twice; of class B, D its neighbours. LIMIT: K, M, K by 2");
        for (int k = 2; k <= 8; k++) {
            for (int m = 1; m <= 4; m++) {
                RegisterColours x = with(k, m, 1, "v0=in;d0=v1*v1;d1=v1*v1;w0=in;w1=in;w2=in;out w0;out w1;out w2;out v0;v2=low d0;v2=low d1;");
                int[][] table = {{8, 5, k}, {9, 3, k}, {10, 2, k}, {32, 2, m}, {33, 2, m}, {34, 2, m}, {40, 3, k / 2}, {41, 3, k / 2}, {11, 0, k},
                    {35, 0, m}, {42, 0, k / 2}};
                for (int[] t : table) {
                    due("DEGREE of " + t[0], x.value(t[0], 2), t[1]);
                    due("LIMIT of " + t[0], x.value(t[0], 3), t[2]);
                    due("HEAVY " + t[0], x.value(t[0], 4), t[1] >= t[2] ? 1 : 0);
                }
            }
        }
        sentence("value: NONE for another what");
        RegisterColours x = with(2, 1, 1, "v0=in;");
        for (int what : new int[] {-1, 5, 6, 256, Integer.MIN_VALUE, Integer.MAX_VALUE}) {
            due("value(8, " + what + ")", x.value(8, what), NONE);
        }
    }

    private static void heavyOfClassA() {
        sentence("It is HEAVY, if DEGREE is not below its LIMIT, or it is FIXED");
        for (int k = 2; k <= 8; k++) {
            RegisterColours x = with(k, 1, 1, together('v', k));
            due("DEGREE", x.value(8, 2), k - 1);
            due("one below LIMIT", x.value(8, 4), 0);
            due("ROUNDS", x.allocate(), 1);
            x = with(k, 1, 1, together('v', k + 1));
            due("DEGREE", x.value(8, 2), k);
            due("just LIMIT", x.value(8, 4), 1);
            due("one SPILLED or more", x.allocate() > 1, true);
            // K less 1 neighbours are below LIMIT, but it is FIXED.
            due("DEGREE of r0", x.value(0, 2), k - 1);
            due("HEAVY r0", x.value(0, 4), 1);
        }
    }

    private static void heavyOfClassesBAndD() {
        sentence("It is HEAVY, if DEGREE is not below its LIMIT, or it is FIXED");
        for (int m = 1; m <= 4; m++) {
            RegisterColours x = with(4, m, 1, together('w', m));
            due("one below LIMIT", x.value(32, 4), 0);
            due("ROUNDS", x.allocate(), 1);
            row("colours ", colours(x, 0, 32, 33, 34, 35), m > 0 ? m - 1 : NONE, m > 1 ? m - 2 : NONE, m > 2 ? m - 3 : NONE, m > 3 ? m - 4 : NONE);
            x = with(4, m, 1, together('w', m + 1));
            due("just LIMIT", x.value(32, 4), 1);
            due("one SPILLED or more", x.allocate() > 1, true);
        }
        String alone = "v0=in;d0=v0*v0;v1=low d0;out v1;";
        for (int k = 2; k <= 8; k++) {
            due("no neighbour, K " + k, with(k, 1, 1, alone).value(40, 4), 0);
            due("one neighbour, K " + k, with(k, 1, 1, alone + "out v0;").value(40, 4), k < 4 ? 1 : 0);
        }
    }

    // ---- section 3: merging ----

    private static void movesByWeight() {
        sentence("MOVES, told once at the ROUND's beginning, by WEIGHT, the greatest first, then by STEP");
        // v1 can go with v0 or with v2, which have an EDGE.
        RegisterColours x = with(8, 1, 1, "v0=in;v1=v0;out v1;v2=in;out v0;v1=v2;if v2<v1 goto 5;out v1;");
        due("ROUNDS", x.allocate(), 1);
        row("nodes by WEIGHT ", colours(x, 2, 8, 9, 10), 8, 9, 9);
        due("merged", x.left(5), 1);
        x = with(8, 1, 1, "v0=in;v1=v0;out v1;v2=in;out v0;v1=v2;out v1;");
        due("ROUNDS", x.allocate(), 1);
        row("nodes by STEP ", colours(x, 2, 8, 9, 10), 8, 8, 10);
        due("merged", x.left(5), 1);
        // DEPTH counts 3 at most, so four loops are no more than three: STEP decides.
        x = with(8, 1, 1, "v0=in;v1=v0;out v1;" + "if v0<v0 goto 1;".repeat(3) + "v2=in;out v0;v1=v2;" + "if v2<v2 goto 8;".repeat(4) + "out v1;");
        due("ROUNDS", x.allocate(), 1);
        row("WEIGHTS ", new int[] {x.step(1, false, 5), x.step(8, false, 5)}, 1000, 1000);
        row("nodes by STEP ", colours(x, 2, 8, 9, 10), 8, 8, 10);
    }

    private static void movesAgainAndAgain() {
        sentence("again and again, by what is merged by then, as long as in a pass anything was merged");
        // v0 is HEAVY (4 of 3) by both pairs; d2 = d0 is SAFE only when d1 and d2 are one.
        RegisterColours x = with(3, 1, 1, "d2=d0;d1=d2;v0=v0;");
        due("ROUNDS", x.allocate(), 1);
        due("merged", x.left(5), 2);
        row("nodes ", colours(x, 2, 40, 41, 42, 8), 40, 40, 40, 8);
        row("colours ", colours(x, 0, 40, 41, 42, 8), 0, 0, 0, 2);
    }

    private static void safeOfTwoNotFixed() {
        sentence("of the neighbours that both together would have those that would be HEAVY then are fewer than LIMIT");
        // v0 has r0, v1 has v4; with v5 v4 is HEAVY, which makes two of LIMIT 2.
        RegisterColours x = with(2, 1, 1, "v0=in;v2=call v3;v1=v0;v4=in;out v1;v5=in;out v4;out v5;");
        due("ROUNDS", x.allocate(), 1);
        due("just LIMIT: not merged", x.left(5), 2);
        row("nodes ", colours(x, 2, 8, 9, 10, 11), 8, 9, 0, 0);
        row("colours ", colours(x, 0, 8, 9, 12, 13), 1, 0, 1, 0);
        row("MOVES ", new int[] {x.left(6), x.left(7)}, 2, 3);
        x = with(2, 1, 1, "v0=in;v2=call v3;v1=v0;v4=in;out v1;out v4;");
        due("ROUNDS", x.allocate(), 1);
        due("one below LIMIT: merged", x.left(5), 3);
        row("nodes ", colours(x, 2, 8, 9, 10, 11), 8, 8, 0, 0);
        sentence("(the DEGREE of a neighbour of both is less by what one of them counts for it; FIXED ones are HEAVY)");
        // v2 and v3 have two neighbours each, which come to be one.
        x = with(2, 1, 1, "v0=in;v1=v0;out v2;out v3;out v1;");
        row("DEGREES ", new int[] {x.value(10, 2), x.value(11, 2)}, 2, 2);
        due("ROUNDS", x.allocate(), 1);
        due("merged", x.left(5), 1);
        row("colours ", colours(x, 0, 8, 9, 10, 11), 1, 1, 0, 0);
    }

    private static void safeCountsPairsTwice() {
        sentence("those that would be HEAVY then (D neighbours of an A node twice) are fewer than LIMIT");
        // r0, r1 and d0, HEAVY by v1 and v4, make four of LIMIT 4.
        RegisterColours x = with(4, 1, 2, "v0=in;v2=call v3;v1=v0;v4=in;d0=v4*v4;out v1;out v4;v5=low d0;");
        due("HEAVY d0", x.value(40, 4), 1);
        due("ROUNDS", x.allocate(), 1);
        due("not merged", x.left(5), 2);
        row("colours ", colours(x, 0, 8, 9, 12, 13, 40), 2, 3, 2, 0, 0);
        row("MOVES ", new int[] {x.left(6), x.left(7)}, 2, 3);
        // Without v4 d0 is not HEAVY: r0 and r1 alone.
        x = with(4, 1, 2, "v0=in;v2=call v3;v1=v0;v4=in;d0=v4*v4;out v1;v5=low d0;");
        due("HEAVY d0", x.value(40, 4), 0);
        due("ROUNDS", x.allocate(), 1);
        due("merged", x.left(5), 3);
        row("colours ", colours(x, 0, 8, 9, 12, 13, 40), 2, 2, 0, 0, 0);
    }

    private static void safeWithFixed() {
        sentence("is one FIXED: each neighbour of the other one is FIXED, or not HEAVY, or has an EDGE with the FIXED one");
        RegisterColours x = with(2, 1, 1, "v0=call v1;v2=in;out v0;out v2;");
        x.allocate();
        due("v2 is not HEAVY: both go with r0", x.left(5), 2);
        row("nodes ", colours(x, 2, 8, 9, 10), 0, 0, 10);
        String heavy = "v0=call v1;v2=in;out v0;v3=in;out v2;out v3;";
        x = with(2, 1, 1, heavy);
        due("ROUNDS", x.allocate(), 1);
        due("v2 is HEAVY, no EDGE with r0: v0 does not", x.left(5), 1);
        row("nodes ", colours(x, 2, 8, 9, 10), 8, 0, 10);
        row("colours ", colours(x, 0, 8, 10, 11), 0, 1, 0);
        due("both MOVES have one register all the same", x.left(6), 2);
        x = with(3, 1, 1, heavy);
        x.allocate();
        due("K 3: v2 is not HEAVY", x.left(5), 2);
        x = with(3, 1, 1, "v2=in;v0=call v1;v3=in;out v0;out v3;out v2;");
        due("v2 is HEAVY", x.value(10, 4), 1);
        due("ROUNDS", x.allocate(), 1);
        due("but has an EDGE with r0", x.left(5), 2);
        due("node of v0", x.colour(8, 2), 0);
        sentence("the nodes of its two, unlike, without an EDGE between, not both FIXED, are merged");
        x = with(8, 1, 1, "v0=in;v1=call v0;out v0;out v1;");
        x.allocate();
        due("v0 lives over the call: its EDGE with r0", x.colour(8, 2), 8);
        due("v1", x.colour(9, 2), 0);
        due("merged", x.left(5), 1);
    }

    private static void mergedNodes() {
        sentence("The merged node is that of the FIXED one, or else of the lesser number (its number); it has all EDGES, the COSTS together");
        RegisterColours x = with(8, 4, 1, "v9=in;v5=v9;v7=v5;out v7;w5=in;w3=w5;out w3;d3=v0*v0;d1=d3;v20=low d1;");
        due("ROUNDS", x.allocate(), 1);
        row("nodes ", colours(x, 2, 17, 13, 15, 37, 35, 43, 41, 14), 13, 13, 13, 35, 35, 41, 41, NONE);
        row("v7 has all EDGES of v5, v9: ", colours(x, 0, 17, 13, 15), x.colour(13, 0), x.colour(13, 0), x.colour(13, 0));
        due("merged", x.left(5), 4);
        x = with(8, 1, 1, "v0=in;v2=in;v1=v0;out v2;v3=in;v4=in;out v1;out v3;out v4;");
        due("ROUNDS", x.allocate(), 1);
        row("v0 has the EDGES of v1, too: ", colours(x, 0, 8, 9, 10, 11, 12), 2, 2, 0, 1, 0);
        x = with(8, 1, 1, "v1=call v0;v2=in;out v1;out v2;");
        due("ROUNDS", x.allocate(), 1);
        row("r0 has the EDGES of v1, too: ", colours(x, 0, 8, 9, 10), 0, 0, 1);
        // v1 lives over the call, v0 does not; of both together none may have r0.
        x = with(2, 1, 1, "v0=in;v1=v0;v3=call v4;out v1;");
        due("ROUNDS", x.allocate(), 1);
        row("v0 has the EDGE of v1 with r0, too: ", colours(x, 0, 8, 9, 11, 12), 1, 1, 0, 0);
        // By that EDGE v3 and v4 can go with r0, though v0 is HEAVY.
        due("merged", x.left(5), 3);
        row("nodes ", colours(x, 2, 8, 9, 11, 12), 8, 8, 0, 0);
        x = with(8, 1, 1, "v0=v0;d0=d0;w0=w0;");
        x.allocate();
        row("one node is not merged with itself: ", new int[] {x.left(5), x.left(6), x.left(7)}, 0, 3, 3);
    }

    // ---- laying, colouring ----

    private static void layingTheLeast() {
        sentence("the one whose COST by DEGREE is least (as a fraction; of several the least number)");
        for (int k = 2; k <= 8; k++) {
            RegisterColours x = with(k, 1, 1, together('v', k + 1));
            x.allocate();
            due("all alike: v0 is SPILLED", x.colour(8, 1), 1);
        }
        for (int cheap = 0; cheap < 3; cheap++) {
            StringBuilder text = new StringBuilder("v0=in;v1=in;v2=in;");
            for (int v = 0; v < 3; v++) {
                text.append("out v" + v + ";").append(v == cheap ? "" : "out v" + v + ";");
            }
            RegisterColours x = with(2, 1, 1, text.toString());
            x.allocate();
            due("v" + cheap + " costs least", x.colour(8 + cheap, 1), 1);
        }
        // v0 is 3 by 2, v1 is 4 by 3, which is less; v2 and v3 are 2.
        RegisterColours x = with(2, 1, 1, "v1=in;v2=in;v0=in;" + "out v0;".repeat(2) + "v3=in;" + "out v3;".repeat(3) + "out v1;".repeat(3) + "out v2;".repeat(5));
        due("ROUNDS", x.allocate(), 2);
        row("SPILLED ", colours(x, 1, 8, 9, 10, 11), 0, 1, 0, 0);
        due("COST", x.left(10), 4);
        sentence("1000000 more for one that was made in ROUNDS");
        // In ROUND 2 the load of v0 is LIVE with v1 and v2, which cost 3 each: still v1 is the one that goes.
        x = with(2, 1, 1, "v0=in;v1=in;v2=in;out v0;out v1;out v1;out v2;out v2;");
        due("ROUNDS", x.allocate(), 3);
        row("SPILLED ", colours(x, 1, 8, 9, 10, 44, 45, 46), 1, 1, 0, 0, 0, 0);
        row("left(", lefts(x), 3, 13, 2, 2, 0, 0, 0, 0, 2, 0, 5, 0);
        sentence("COST by DEGREE (as what is left is)");
        // v4 is not HEAVY and goes first; then v1 is 5 by 3, which is more than 3 by 2, though 5 by 4 was less.
        x = with(2, 1, 1, "v1=in;v4=in;out v4;v2=in;v0=in;" + "out v0;".repeat(2) + "v3=in;" + "out v3;".repeat(3) + "out v1;".repeat(4) + "out v2;".repeat(5));
        due("ROUNDS", x.allocate(), 3);
        row("SPILLED ", colours(x, 1, 8, 9, 10, 11, 12), 1, 1, 0, 1, 0);
        row("how many, COST ", new int[] {x.left(3), x.left(10)}, 3, 12);
    }

    private static void colouringTheLeast() {
        sentence("the latest taken out first: the least register of its class that no neighbour coloured by then (nor FIXED) has");
        for (int k = 2; k <= 8; k++) {
            RegisterColours x = with(k, 1, 1, together('v', k));
            due("ROUNDS", x.allocate(), 1);
            for (int v = 0; v < k; v++) {
                // v0 is taken out first, so it is coloured last.
                due("colour of v" + v + ", K " + k, x.colour(8 + v, 0), k - 1 - v);
            }
            due("registers", x.left(8), k);
        }
        for (int c = 1; c < 8; c++) {
            RegisterColours x = with(8, 1, c, "v0=in;v1=call v2;out v0;");
            x.allocate();
            due("the least that is not CLOBBERED, " + c, x.colour(8, 0), c);
        }
        sentence("is there none, it is SPILLED");
        for (int k = 2; k <= 8; k++) {
            RegisterColours x = with(k, 1, k, "v0=in;v1=call v2;out v0;");
            due("ROUNDS, K " + k, x.allocate(), 2);
            due("all are CLOBBERED", x.colour(8, 1), 1);
            row("left(", lefts(x), 2, 7, 1, 1, 0, 2, 2, 2, 2, 0, 2, 0);
        }
    }

    private static void pairsOfRegisters() {
        sentence("A pair takes r2p and r2p+1 (p 0 .. K by 2, less 1)");
        RegisterColours x = with(8, 1, 1, "d0=v0*v0;d1=v0*v0;d2=v0*v0;d3=v0*v0;v1=low d0;out v1;v1=low d1;out v1;v1=low d2;out v1;v1=low d3;out v1;");
        due("ROUNDS", x.allocate(), 1);
        row("pairs ", colours(x, 0, 40, 41, 42, 43, 8, 9), 3, 2, 1, 0, 0, 6);
        due("all eight", x.left(8), 8);
        String beside = "v0=in;d0=v0*v0;v1=low d0;out v1;out v0;";
        x = with(3, 1, 1, beside);
        due("K 3: r2 is in no pair", x.allocate(), 1);
        row("colours ", colours(x, 0, 40, 8, 9), 0, 2, 0);
        x = with(2, 1, 1, beside);
        due("K 2: one pair and nothing beside it", x.allocate(), 2);
        due("v0", x.colour(8, 1), 1);
        String two = "v0=in;d0=v0*v0;d1=v0*v0;v1=low d0;out v1;v1=low d1;out v1;";
        x = with(4, 1, 1, two);
        due("K 4: two pairs", x.allocate(), 1);
        row("pairs ", colours(x, 0, 40, 41), 1, 0);
        for (int k = 2; k <= 3; k++) {
            x = with(k, 1, 1, two);
            due("one pair alone", x.allocate() > 1, true);
            due("a pair is SPILLED", x.colour(40, 1) + x.colour(41, 1) > 0, true);
        }
        x = with(7, 1, 1, "d0=v0*v0;d1=v0*v0;d2=v0*v0;d3=v0*v0;v1=low d0;out v1;v1=low d1;out v1;v1=low d2;out v1;v1=low d3;out v1;");
        due("K 7: three pairs, not four", x.allocate() > 1, true);
    }

    // ---- spilling ----

    /** w1 costs more than w0 by so many outs; M 1 has room for one of them alone. */
    private static RegisterColours besideW1(String ahead, int outs, String behind) {
        RegisterColours x = with(4, 1, 1, ahead + "w1=in;" + "out w1;".repeat(outs) + behind);
        due("ROUNDS of " + ahead + ".." + behind, x.allocate(), 2);
        due("w1 stays", x.colour(33, 1), 0);
        return x;
    }

    private static void madeAnew() {
        sentence("is there a number N so that all STEPS (one at least) that make any of its VALUES, but MOVES among these, are X = N, it is MADE ANEW");
        RegisterColours x = besideW1("w0=7;", 2, "out w0;");
        due("MADE ANEW", x.colour(32, 1), 2);
        row("left(", lefts(x), 2, 5, 0, 1, 1, 0, 0, 0, 0, 1, 2, 0);
        steps(x, true, new int[][] {{1, 33, -1, -1, -1}, {11, -1, 33, -1, -1}, {11, -1, 33, -1, -1}, {0, 44, -1, -1, 7}, {11, -1, 44, -1, -1}});
        x = besideW1("w0=0;out w0;w0=0;", 3, "out w0;");
        due("twice the same number", x.colour(32, 1), 2);
        steps(x, true, new int[][] {{0, 44, -1, -1, 0}, {11, -1, 44, -1, -1}, {1, 33}, {11}, {11}, {11}, {0, 45, -1, -1, 0}, {11, -1, 45, -1, -1}});
        x = besideW1("w0=9999;w0=w0;", 4, "out w0;");
        due("a MOVE of itself counts for nothing", x.colour(32, 1), 2);
        steps(x, true, new int[][] {{1, 33}, {11}, {11}, {11}, {11}, {0, 44, -1, -1, 9999}, {11, -1, 44}});
        x.input(5, true);
        due("RUN 1", x.run(1, 3), x.run(0, 3));
    }

    private static void slotsNotAnew() {
        sentence("else (never made, X = SLOT, too) it gets a SLOT (0, 1, .. on)");
        RegisterColours x = besideW1("", 1, "out w0;");
        due("never made", x.colour(32, 1), 1);
        row("left(", lefts(x), 2, 4, 1, 1, 0, 0, 0, 0, 0, 1, 1, 0);
        steps(x, true, new int[][] {{1, 33}, {11, -1, 33}, {12, 44, -1, -1, 0}, {11, -1, 44, -1, -1}});
        x = besideW1("w0=w0;", 3, "out w0;");
        due("made by a MOVE of itself alone", x.colour(32, 1), 1);
        due("STEPS", x.left(1), 6);
        x = besideW1("w0=7;out w0;w0=8;", 3, "out w0;");
        due("two numbers", x.colour(32, 1), 1);
        steps(x, true, new int[][] {{0, 44, -1, -1, 7}, {13, -1, 44, -1, 0}, {12, 45, -1, -1, 0}, {11, -1, 45}, {0, 46, -1, -1, 8},
            {13, -1, 46, -1, 0}, {1, 33}, {11}, {11}, {11}, {12, 47, -1, -1, 0}, {11, -1, 47}});
        due("a number and in", besideW1("w0=7;out w0;w0=in;", 3, "out w0;").colour(32, 1), 1);
        due("in and a number", besideW1("w0=in;out w0;w0=7;", 3, "out w0;").colour(32, 1), 1);
        due("a number and one brought over", besideW1("w0=7;out w0;w0=v0;", 3, "out w0;").colour(32, 1), 1);
        // Two SPILLED ones, by number: v0 has SLOT 0, v1 has SLOT 1.
        x = with(2, 1, 2, "v1=in;v0=in;v2=call v3;out v1;out v0;");
        due("ROUNDS", x.allocate(), 2);
        row("SLOTS ", new int[] {x.step(1, true, 4), x.step(3, true, 4), x.left(2)}, 1, 0, 2);
    }

    private static void movesOfSpilledGoOut() {
        sentence("a MOVE among the VALUES of one SPILLED node goes out");
        RegisterColours x = besideW1("w0=in;w0=w0;", 4, "out w0;");
        steps(x, true, new int[][] {{1, 44}, {13, -1, 44, -1, 0}, {1, 33}, {11}, {11}, {11}, {11}, {12, 45, -1, -1, 0}, {11, -1, 45}});
        due("MOVES left", x.left(7), 0);
        sentence("one that makes one of a node MADE ANEW goes out (that was a number)");
        x = besideW1("w0=3;w0=3;w0=3;", 4, "out w0;");
        due("STEPS", x.left(1), 7);
        // A MOVE out of a SPILLED one stays: what it moves is loaded.
        x = besideW1("w0=in;", 3, "w2=w0;out w2;");
        steps(x, true, new int[][] {{1, 44}, {13, -1, 44, -1, 0}, {1, 33}, {11}, {11}, {11}, {12, 45, -1, -1, 0}, {2, 34, 45}, {11, -1, 34}});
        due("merged", x.left(5), 1);
    }

    private static void loadsInOrder() {
        sentence("ahead of it, for each VALUE of a SPILLED node that it reads (in the order in which they stand) a new VALUE of its class is loaded");
        RegisterColours x = with(3, 1, 3, "v0=in;v1=in;v2=call v3;v4=v1-v0;out v4;out v2;");
        due("ROUNDS", x.allocate(), 2);
        steps(x, true, new int[][] {
            {1, 44, -1, -1, -1, -1, 1}, {13, -1, 44, -1, 0, -1, -1, 1, -1}, {1, 45, -1, -1, -1, -1, 1}, {13, -1, 45, -1, 1, -1, -1, 1, -1},
            {2, 0, 11}, {6, 0, 0}, {2, 10, 0}, {12, 46, -1, -1, 1, -1, 2, -1, -1}, {12, 47, -1, -1, 0, -1, 1, -1, -1},
            {4, 12, 46, 47, -1, -1, 1, 2, 1}, {11, -1, 12}, {11, -1, 10, -1, -1, -1, -1, 0, -1},
        });
        x.input(100, true);
        x.input(1, true);
        due("RUN 1", x.run(1, 3), 31 * (1 - 100) + 3);
    }

    private static void onceForTwoPlaces() {
        sentence("a VALUE that stands twice once. (A STEP that reads and makes one: two new VALUES.)");
        RegisterColours x = besideW1("w0=in;", 5, "w0=w0+w0;out w0;");
        steps(x, true, new int[][] {{1, 44}, {13, -1, 44, -1, 0}, {1, 33}, {11}, {11}, {11}, {11}, {11}, {12, 45, -1, -1, 0}, {3, 46, 45, 45, -1},
            {13, -1, 46, -1, 0}, {12, 47, -1, -1, 0}, {11, -1, 47}});
        x = besideW1("w0=5;", 3, "if w0<w0 goto 6;");
        steps(x, true, new int[][] {{1, 33}, {11}, {11}, {11}, {0, 44, -1, -1, 5}, {9, -1, 44, 44, 6}});
    }

    private static void jumpsToWhatIsThere() {
        sentence("A jump to a STEP goes to the first of what is there for it (gone: to the next one)");
        // LINE 6 makes w0 anew and goes out; nothing is behind it but the end.
        RegisterColours x = besideW1("w0=7;", 3, "if w0<w0 goto 6;w0=7;");
        due("STEPS", x.left(1), 6);
        due("to the end", x.step(5, true, 4), 6);
        x = with(4, 1, 1, "goto 3;out v0;w0=7;w0=7;w1=in;out w1;out w1;out w1;out w0;");
        due("ROUNDS", x.allocate(), 2);
        due("gone, as the one ahead of it: to w1 = in", x.step(0, true, 4), 2);
        due("w1 = in", x.step(2, true, 1), 33);
        // The STEP to which LINE 4 goes reads a SPILLED one: the jump goes to the load ahead of it.
        x = with(2, 1, 2, "v0=in;v1=in;out v0;v1=call v1;goto 2;");
        due("ROUNDS", x.allocate(), 2);
        row("the jump ", new int[] {x.step(8, true, 0), x.step(8, true, 4), x.step(3, true, 0)}, 10, 3, 12);
        sentence("(SLOTS, new VALUES go on in number)");
        x = with(4, 1, 1, "w0=in;w1=in;w2=w0;out w1;out w2;");
        due("ROUNDS", x.allocate(), 3);
        row("SLOTS ", new int[] {x.step(1, true, 4), x.step(3, true, 4), x.step(6, true, 4)}, 1, 0, 2);
        row("VALUES ", new int[] {x.step(0, true, 1), x.step(2, true, 1), x.step(4, true, 1), x.step(5, true, 1), x.step(7, true, 1),
            x.step(9, true, 1)}, 46, 44, 47, 48, 45, 49);
    }

    private static void pairsInSlots() {
        sentence("a new VALUE of its class is loaded");
        // d0 lives over the call, which makes the only pair other.
        RegisterColours x = with(2, 1, 2, "v0=in;d0=v0*v0;v1=call v0;v2=low d0;out v2;v2=high d0;out v2;out v1;");
        due("ROUNDS", x.allocate() > 1, true);
        due("d0", x.colour(40, 1), 1);
        x.input(Integer.MAX_VALUE, true);
        int due = 31 * (31 + 0x3fffffff) + (7 * Integer.MAX_VALUE + 3);
        due("64 bits through a SLOT", x.run(1, 3), due);
        due("RUN 0", x.run(0, 3), due);
        due("proved()", x.proved(), 1);
    }

    // ---- FAILS ----

    private static void eighthRound() {
        sentence("Behind the eighth ROUND that SPILLED it FAILS");
        RegisterColours x = with(2, 1, 2, "out v9;out v11;v5=low d3;out v8;v6=v9;if v4<v13 goto 10;out v10;v7=v9;out v6;out v10;v6=in;v6=v3;");
        due("just eight", x.allocate(), 8);
        due("left(0)", x.left(0), 8);
        due("proved()", x.proved(), 1);
        x = with(2, 1, 2, "if v7<v0 goto 7;out v5;v1=low d0;if v7<v3 goto 5;v3=v0;out v0;v13=v9;out v13;v12=v0;if v9<v13 goto 4;");
        due("it would be nine", x.allocate(), NONE);
        due("nothing left", x.look(10), 0);
        due("with one register more it is DONE", x.set(0, 3), true);
        due("allocate()", x.allocate() > 0, true);
    }

    private static void failing() {
        sentence("it FAILS (what it was till then stays as it was ahead of ALLOCATE: none)");
        RegisterColours x = with(4, 1, 1, "w0=in;w1=in;w2=w0+w1;out w2;v0=in;out v0;");
        x.input(4, true);
        x.paint(3, 3);
        String before = everything(x);
        due("two of class B at once, M 1", x.allocate(), NONE);
        due("all as it was", everything(x), before);
        due("again", x.allocate(), NONE);
        due("all as it was", everything(x), before);
        due("image", x.image(true), true);
        due("set(1, 2)", x.set(1, 2), true);
        due("M 2", x.allocate(), 1);
        due("back", x.image(false), true);
        due("all as it was", everything(x), before);
        // 40 STEPS of three of class B each, M 1: VALUES above 199 long before the eighth ROUND.
        x = with(2, 1, 1, "w0=w1+w2;w3=w4-w5;w6=w7*w0;w1=w2*w3;w4=w5+w6;".repeat(8));
        due("40 LINES", x.look(0), 40);
        before = everything(x);
        due("allocate()", x.allocate(), NONE);
        due("all as it was", everything(x), before);
    }

    // ---- promises 9, 13, 14 ----

    private static void stepAsked() {
        sentence("step: NONE if there is none such, or another what");
        RegisterColours x = with(4, 2, 1, "v0=5;v1=v0+v0;out v1;d0=d1;");
        for (int what = -1; what <= 9; what++) {
            due("nothing left", x.step(0, true, what), NONE);
        }
        x.allocate();
        for (boolean left : new boolean[] {false, true}) {
            for (int i : new int[] {-1, 4, 120, 400, Integer.MIN_VALUE, Integer.MAX_VALUE}) {
                for (int what = 0; what <= 8; what++) {
                    due("step(" + i + ", " + left + ", " + what + ")", x.step(i, left, what), NONE);
                }
            }
            for (int what : new int[] {-1, 9, 10, 256, Integer.MIN_VALUE, Integer.MAX_VALUE}) {
                due("step(0, " + left + ", " + what + ")", x.step(0, left, what), NONE);
            }
            due("the last", x.step(3, left, 0), 2);
        }
        sentence("step: 5 WEIGHT (left false), 6 the register of what it makes, 7, 8 of what it reads (left true)");
        for (int i = 0; i < 4; i++) {
            due("WEIGHT of THE CODE", x.step(i, false, 5), 1);
            due("no WEIGHT of what is left", x.step(i, true, 5), NONE);
            for (int what = 6; what <= 8; what++) {
                due("no registers of THE CODE", x.step(i, false, what), NONE);
            }
        }
        // d1 is LIVE all the while in r0 and r1, so v0 and v1 are in r2.
        row("STEP 0 ", new int[] {x.step(0, true, 6), x.step(0, true, 7), x.step(0, true, 8)}, 2, NONE, NONE);
        row("STEP 1 ", new int[] {x.step(1, true, 6), x.step(1, true, 7), x.step(1, true, 8)}, 2, 2, 2);
        row("STEP 2 ", new int[] {x.step(2, true, 6), x.step(2, true, 7), x.step(2, true, 8)}, NONE, 2, NONE);
        row("STEP 3 ", new int[] {x.step(3, true, 6), x.step(3, true, 7), x.step(3, true, 8)}, 0, 0, NONE);
    }

    private static void colourAsked() {
        sentence("colour: NONE if ALLOCATE left nothing, there is none such, or another what");
        RegisterColours x = with(4, 2, 1, "v0=in;out v0;");
        for (int v = -1; v <= 200; v++) {
            for (int what = 0; what < 3; what++) {
                due("nothing left", x.colour(v, what), NONE);
            }
        }
        x.allocate();
        for (int v : new int[] {-1, 4, 7, 200, 201, Integer.MIN_VALUE, Integer.MAX_VALUE}) {
            for (int what = 0; what < 3; what++) {
                due("colour(" + v + ", " + what + ")", x.colour(v, what), NONE);
            }
        }
        for (int what : new int[] {-1, 3, 256, Integer.MIN_VALUE, Integer.MAX_VALUE}) {
            due("colour(8, " + what + ")", x.colour(8, what), NONE);
        }
        sentence("colour: its register (NONE: none, or not THERE any more), its node's number in the last ROUND (NONE: not THERE)");
        for (int v : new int[] {9, 31, 32, 39, 40, 43, 44, 199}) {
            row("colour(" + v + ", ", new int[] {x.colour(v, 0), x.colour(v, 1), x.colour(v, 2)}, NONE, 0, NONE);
        }
        row("colour(8, ", new int[] {x.colour(8, 0), x.colour(8, 1), x.colour(8, 2)}, 0, 0, 8);
        x = besideW1("w0=7;", 2, "out w0;");
        row("SPILLED ", new int[] {x.colour(32, 0), x.colour(32, 1), x.colour(32, 2)}, NONE, 2, NONE);
        row("new ", new int[] {x.colour(44, 0), x.colour(44, 1), x.colour(44, 2)}, 0, 0, 44);
    }

    private static void leftAsked() {
        sentence("left: NONE if there is nothing, or another what");
        RegisterColours x = new RegisterColours();
        for (int what = -1; what <= 12; what++) {
            due("nothing", x.left(what), NONE);
        }
        x.allocate();
        for (int what : new int[] {-1, 12, 13, 256, Integer.MIN_VALUE, Integer.MAX_VALUE}) {
            due("left(" + what + ")", x.left(what), NONE);
        }
        sentence("left: 3, 4, 10, 11 of all ROUNDS; 5 in the last ROUND");
        // ROUND 1 spills w1, ROUND 2 w0 and w2, whose MOVE is not SAFE with M 1.
        x = with(4, 1, 1, "w0=in;w1=in;w2=w0;out w1;out w2;");
        due("ROUNDS", x.allocate(), 3);
        row("left(", lefts(x), 3, 11, 3, 3, 0, 1, 1, 1, 0, 1, 6, 0);
        // ROUND 1 colours one of the ring's four though all were HEAVY, and spills w0; ROUND 2 colours it again.
        x = with(2, 1, 1, "v0=in;v1=in;out v0;v2=in;out v1;v3=in;out v2;v0=in;out v3;if v0<v0 goto 1;w1=in;out w1;out w0;");
        due("ROUNDS", x.allocate(), 2);
        due("twice one that was taken out as HEAVY was coloured", x.left(11), 2);
    }

    private static void registersCounted() {
        sentence("left: 8 how many registers of class A some STEP reads or makes (pairs' two; a CALL: r0), 9 of class B");
        RegisterColours x = with(8, 4, 8, "v0=call v0;");
        x.allocate();
        row("CALL ", new int[] {x.left(8), x.left(9)}, 1, 0);
        x = with(8, 4, 1, "goto 0;");
        x.allocate();
        row("none ", new int[] {x.left(8), x.left(9)}, 0, 0);
        x = with(8, 4, 1, "d0=d0;w0=w0;");
        x.allocate();
        row("a pair ", new int[] {x.left(8), x.left(9)}, 2, 1);
        x = with(8, 4, 1, "out v0;out v1;out w0;out w1;");
        x.allocate();
        // None of these is ever made, so none has an EDGE: all have register 0.
        row("read alone ", new int[] {x.left(8), x.left(9)}, 1, 1);
        x = with(8, 4, 1, "v0=in;out v1;");
        x.allocate();
        row("made alone ", new int[] {x.left(8), x.colour(8, 0), x.colour(9, 0)}, 2, 1, 0);
        x = with(8, 4, 1, "v1=in;if v1<v2 goto 2;w1=in;if w1<w2 goto 4;");
        x.allocate();
        row("read second alone ", new int[] {x.left(8), x.left(9), x.colour(9, 0), x.colour(10, 0)}, 2, 2, 1, 0);
        for (int m = 1; m <= 4; m++) {
            x = with(8, 4, 1, together('w', m));
            x.allocate();
            row("class B ", new int[] {x.left(8), x.left(9)}, 0, m);
        }
    }
}
