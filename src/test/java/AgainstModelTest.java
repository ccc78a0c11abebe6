import java.util.Map;
import java.util.Random;
import java.util.TreeMap;

/** Codes and texts drawn by lot (always the same lot): every answer of the program beside the model's. */
public final class AgainstModelTest {
    private static int wrong = 0;
    private static long asked = 0;
    private static final Map<String, Integer> SEEN = new TreeMap<>();
    private static String told = "";

    public static void main(String[] args) {
        int codes = args.length > 0 ? Integer.parseInt(args[0]) : 800;
        int seed = args.length > 1 ? Integer.parseInt(args[1]) : 7;
        compareLongOnes();
        compareAllBeginnings();
        for (int i = 0; i < codes && wrong < 20; i++) {
            Random lot = new Random(seed * 1000003L + i);
            int k = 2 + lot.nextInt(7);
            compareCode(lot, k, 1 + lot.nextInt(k), lot.nextInt(3) == 0 ? Lot.pressed(lot) : Lot.code(lot));
        }
        for (int i = 0; i < 20 * codes && wrong < 20; i++) {
            compareText(new Random(-seed * 1000003L - i));
        }
        System.out.println(asked + " answers asked; seen: " + SEEN);
        System.out.println(wrong == 0 ? "all answers are the model's" : wrong + " answers are not the model's");
        if (wrong != 0) {
            System.exit(1);
        }
    }

    private static void seen(String what) {
        SEEN.merge(what, 1, Integer::sum);
    }

    private static void same(String call, long got, long want) {
        asked++;
        if (got != want) {
            wrong++;
            System.out.println(told + "\n  " + call + " answered " + got + ", the model " + want);
        }
    }

    // ---- codes that are sound ----

    /** Found by search: with K 2 the first take just eight ROUNDS, the others would take nine. */
    private static final String[] EIGHT = {
        "if v12<v6 goto 5;if v11<v6 goto 0;v3=low d3;out v13;out v11;out v6;v3=v9;v3=v10;if v3<v9 goto 11;if v1<v11 goto 12;out v1;v2=v2;"
            + "out v3;v2=in;d2=v10*v9;v8=v9;",
        "out v9;out v11;v5=low d3;out v8;v6=v9;if v4<v13 goto 10;out v10;v7=v9;out v6;out v10;v6=in;v6=v3;",
        "if v8<v9 goto 3;out v4;out v2;if v9<v12 goto 12;out v8;v7=low d0;v10=v12;v11=low d2;v13=v5;out v13;out v1;out v13;out v2;out v9;",
        "out v5;v9=low d3;if v4<v12 goto 8;v1=v0;v9=in;out v13;if v11<v9 goto 6;v7=v3;v5=in;if v2<v8 goto 9;d2=v5*v3;v7=v11;",
    };
    private static final String[] NINE = {
        "if v7<v3 goto 5;v0=low d0;out v3;v10=v8;v2=v7;v5=v2;v9=v7;v10=in;v3=v7;v12=in;d1=d1;out v11;v1=v12;if v1<v12 goto 3;",
        "if v7<v0 goto 7;out v5;v1=low d0;if v7<v3 goto 5;v3=v0;out v0;v13=v9;out v13;v12=v0;if v9<v13 goto 4;",
    };

    private static void compareLongOnes() {
        for (String text : EIGHT) {
            same("eight ROUNDS of " + text, compareCode(new Random(8), 2, 2, text), 8);
        }
        for (String text : NINE) {
            same("nine ROUNDS of " + text, compareCode(new Random(9), 2, 2, text), -1);
        }
    }

    private static int compareCode(Random lot, int k, int clobbered, String text) {
        RegisterColours x = new RegisterColours();
        Twin twin = new Twin();
        setBoth(lot, x, twin, new int[] {k, 1 + lot.nextInt(4), clobbered});
        told = text;
        tellBoth(x, twin);
        told += " K" + twin.look(2) + " M" + twin.look(3) + " C" + twin.look(4);
        compareGraph(x, twin);
        int rounds = twin.allocate();
        same("allocate()", x.allocate(), rounds);
        seen(rounds == -1 ? "fails, " + twin.model.whyFailed : "rounds " + rounds);
        for (int what = -1; what <= 11; what++) {
            same("look(" + what + ")", x.look(what), twin.look(what));
        }
        compareRuns(x, twin);
        compareLeft(x, twin);
        return x.left(0);
    }

    private static void tellBoth(RegisterColours x, Twin twin) {
        for (int[] five : Lot.fives(told)) {
            x.feed(five[0], five[1], five[2], five[3], five[4]);
            twin.feed(five);
        }
        x.end(told.length());
        twin.end(told.length());
        same("code()", x.code(), twin.code());
        same("fault(0)", x.fault(0), twin.fault(0));
        same("fault(1)", x.fault(1), twin.fault(1));
    }

    private static void setBoth(Random lot, RegisterColours x, Twin twin, int[] v) {
        for (int what = 0; what < 3; what++) {
            same("set", x.set(what, v[what]) ? 1 : 0, twin.set(what, v[what]) ? 1 : 0);
        }
        for (int i = lot.nextInt(17); i > 0; i--) {
            int number = lot.nextInt(3) == 0 ? lot.nextInt() : lot.nextInt(20) - 5;
            same("input", x.input(number, true), twin.input(number, true));
        }
        for (int i = 0; i < 12; i++) {
            int colour = lot.nextInt(4) - 1;
            int which = lot.nextInt(24);
            same("paint", x.paint(which, colour) ? 1 : 0, twin.paint(which, colour) ? 1 : 0);
        }
    }

    private static void compareGraph(RegisterColours x, Twin twin) {
        compareSteps(x, twin, false);
        for (int v = -1; v <= 44; v++) {
            for (int i = -1; i <= twin.look(1); i++) {
                same("live(" + i + ", " + v + ")", x.live(i, v), twin.live(i, v));
            }
            for (int y = -1; y <= 44; y++) {
                same("edge(" + v + ", " + y + ")", x.edge(v, y), twin.edge(v, y));
            }
            for (int what = -1; what <= 5; what++) {
                same("value(" + v + ", " + what + ")", x.value(v, what), twin.value(v, what));
            }
        }
        for (int what = -1; what <= 4; what++) {
            same("graph(" + what + ")", x.graph(what), twin.graph(what));
        }
        seen(twin.graph(0) == 1 ? "chordal" : "not chordal");
    }

    private static void compareSteps(RegisterColours x, Twin twin, boolean left) {
        int count = left ? twin.left(1) : twin.look(1);
        for (int i = -1; i <= count; i++) {
            for (int what = -1; what <= 9; what++) {
                same("step(" + i + ", " + left + ", " + what + ")", x.step(i, left, what), twin.step(i, left, what));
            }
        }
    }

    private static void compareRuns(RegisterColours x, Twin twin) {
        for (int which = -1; which <= 2; which++) {
            for (int what = -1; what <= 4; what++) {
                same("run(" + which + ", " + what + ")", x.run(which, what), twin.run(which, what));
            }
        }
        // A VALUE read before it is made is 0 in RUN 0, but its number if it was MADE ANEW.
        boolean comparable = twin.left(4) == 0 || twin.model.drawn().live.get(0).isEmpty();
        if (comparable && twin.run(0, 0) == 0 && twin.run(1, 0) == 0) {
            seen("both runs at the end");
            same("both runs put out alike", x.run(1, 3), x.run(0, 3));
            same("both runs put out as often", x.run(1, 2), x.run(0, 2));
        }
    }

    private static void compareLeft(RegisterColours x, Twin twin) {
        compareSteps(x, twin, true);
        for (int v = -1; v <= 200; v++) {
            for (int what = -1; what <= 3; what++) {
                same("colour(" + v + ", " + what + ")", x.colour(v, what), twin.colour(v, what));
            }
        }
        for (int what = -1; what <= 12; what++) {
            same("left(" + what + ")", x.left(what), twin.left(what));
        }
        same("proved()", x.proved(), twin.proved());
        seen("proved " + twin.proved());
        if (twin.left(4) > 0) {
            seen("made anew");
        }
        if (twin.left(11) > 0) {
            seen("heavy but coloured");
        }
    }

    // ---- texts that may have FAULTS ----

    private static void compareText(Random lot) {
        compareText(Lot.spoilt(lot));
    }

    private static void compareText(String text) {
        RegisterColours x = new RegisterColours();
        Twin twin = new Twin();
        told = text;
        tellBoth(x, twin);
        seen("fault " + twin.fault(0));
    }

    private static final String[] TOKENS = {"v", "w", "d", "if", "goto", "out", "in", "call", "low", "high", ";", "=", "<", "+", "-", "*", "0", "1", "2", "3",
        "4", "7", "8", "23", "24", "40", "41", "9999", "10000", "x", "V", "?", "\t"};

    /** Every LINE's every beginning with every token behind it, and the LINE's next token behind that. */
    private static void compareAllBeginnings() {
        for (String shape : Model.SHAPES) {
            String[] tokens = shape.replace('#', '1').split(" ");
            StringBuilder begun = new StringBuilder();
            for (String right : tokens) {
                for (String token : TOKENS) {
                    compareText(begun + token);
                    compareText(begun + token + " ;");
                    compareText(begun + token + " " + right);
                    compareText("out v0;".repeat(40) + begun + token + " " + right);
                }
                begun.append(right).append(' ');
            }
        }
    }
}
