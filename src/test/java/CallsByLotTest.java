import java.util.List;
import java.util.Random;

/** Runs of up to 512 calls drawn by lot, in any order and with any arguments: program and model side by side. */
public final class CallsByLotTest {
    private static final int[] EDGES = {-1, 0, 1, 2, 3, 4, 5, 7, 8, 9, 15, 16, 20, 23, 24, 31, 32, 39, 40, 43, 44, 45,
        60, 119, 120, 199, 200, 380, 400, 401, -2, Integer.MIN_VALUE, Integer.MAX_VALUE, -100000};
    private static int wrong = 0;
    private static StringBuilder calls = new StringBuilder();

    public static void main(String[] args) {
        int runs = args.length > 0 ? Integer.parseInt(args[0]) : 150;
        int seed = args.length > 1 ? Integer.parseInt(args[1]) : 3;
        for (int i = 0; i < runs && wrong == 0; i++) {
            doRun(new Random(seed * 7919L + i));
        }
        System.out.println(wrong == 0 ? "all calls answered as the model does" : "a call did not answer as the model does");
        if (wrong != 0) {
            System.exit(1);
        }
    }

    private static void doRun(Random lot) {
        RegisterColours x = new RegisterColours();
        Twin twin = new Twin();
        calls = new StringBuilder();
        int most = 100 + lot.nextInt(413);
        for (int i = 0; i < most && wrong == 0; ) {
            i += lot.nextInt(12) == 0 ? tell(lot, x, twin) : call(lot, x, twin);
        }
    }

    private static void same(String call, long got, long want) {
        calls.append(call).append(" -> ").append(want).append('\n');
        if (got != want) {
            wrong++;
            System.out.println(calls + "  answered " + got + ", the model " + want);
        }
    }

    private static void same(String call, boolean got, boolean want) {
        same(call, got ? 1 : 0, want ? 1 : 0);
    }

    private static int tell(Random lot, RegisterColours x, Twin twin) {
        int kind = lot.nextInt(10);
        String text = kind < 4 ? Lot.pressed(lot) : kind < 9 ? Lot.code(lot) : Lot.spoilt(lot);
        List<int[]> fives = Lot.fives(text);
        for (int[] f : fives) {
            same("feed", x.feed(f[0], f[1], f[2], f[3], f[4]), twin.feed(f));
        }
        same("end(" + text.length() + ")", x.end(text.length()), twin.end(text.length()));
        same("code() " + text, x.code(), twin.code());
        return fives.size() + 2;
    }

    private static int edge(Random lot) {
        return EDGES[lot.nextInt(EDGES.length)];
    }

    private static int call(Random lot, RegisterColours x, Twin twin) {
        int a = lot.nextInt(3) == 0 ? edge(lot) : lot.nextInt(48);
        int b = lot.nextInt(8) == 0 ? edge(lot) : lot.nextInt(13);
        boolean c = lot.nextBoolean();
        switch (lot.nextInt(28)) {
            case 0 -> same("set(" + b + ", " + a % 10 + ")", x.set(b, a % 10), twin.set(b, a % 10));
            case 1 -> {
                int w = lot.nextInt(4);
                int v = lot.nextInt(10);
                same("set(" + w + ", " + v + ")", x.set(w, v), twin.set(w, v));
            }
            case 2 -> same("feed", x.feed(a, b, a, b, a), twin.feed(a, b, a, b, a));
            case 3 -> same("end(" + a + ")", x.end(a), twin.end(a));
            case 4 -> same("fault(" + b + ")", x.fault(b), twin.fault(b));
            case 5 -> same("input(" + a + ", true)", x.input(a, true), twin.input(a, true));
            case 6 -> same("input(" + a + ", " + c + ")", x.input(a, c), twin.input(a, c));
            case 7, 8, 9 -> same("allocate()", x.allocate(), twin.allocate());
            case 10, 11 -> same("step(" + a + ", " + c + ", " + b + ")", x.step(a, c, b), twin.step(a, c, b));
            case 12 -> same("live(" + a + ", " + b * 3 + ")", x.live(a, b * 3), twin.live(a, b * 3));
            case 13 -> same("value(" + a + ", " + b % 6 + ")", x.value(a, b % 6), twin.value(a, b % 6));
            case 14 -> {
                int y = lot.nextInt(46);
                same("edge(" + a + ", " + y + ")", x.edge(a, y), twin.edge(a, y));
            }
            case 15, 16 -> same("colour(" + a + ", " + b % 4 + ")", x.colour(a, b % 4), twin.colour(a, b % 4));
            case 17, 18 -> same("left(" + b + ")", x.left(b), twin.left(b));
            case 19, 20 -> {
                int w = lot.nextInt(3);
                same("run(" + w + ", " + b % 5 + ")", x.run(w, b % 5), twin.run(w, b % 5));
            }
            case 21 -> same("proved()", x.proved(), twin.proved());
            case 22 -> same("graph(" + b % 6 + ")", x.graph(b % 6), twin.graph(b % 6));
            case 23 -> same("paint(" + a + ", " + (b - 2) + ")", x.paint(a, b - 2), twin.paint(a, b - 2));
            case 24 -> same("image(true)", x.image(true), twin.image(true));
            case 25 -> same("image(false)", x.image(false), twin.image(false));
            default -> same("look(" + b + ")", x.look(b), twin.look(b));
        }
        return 1;
    }
}
