import java.util.ArrayList;
import java.util.List;

/** Calls that are refused, or asked beyond all bounds, in objects of every kind: the answer, and that nothing changes. */
public final class RefusedCallsTest extends Asked {
    private static final int MIN = Integer.MIN_VALUE;
    private static final int MAX = Integer.MAX_VALUE;
    private static final int[] FAR = {MIN, MIN + 1, -65536, -257, -256, -200, -100, -2, 401, 512, 1000, 65536, MAX - 1, MAX};

    public static void main(String[] args) {
        for (RegisterColours x : objects()) {
            refusedOnes(x);
            asksBeyondBounds(x);
        }
        fullOnes();
        fiveHundredAndTwelveCalls();
        endOfTest();
    }

    private static List<RegisterColours> objects() {
        List<RegisterColours> all = new ArrayList<>();
        all.add(new RegisterColours());
        RegisterColours x = new RegisterColours();
        x.allocate();
        all.add(x);
        all.add(with(4, 2, 1, "v0=in;v1=v0;out v1;"));
        x = with(2, 1, 2, "v0=7;v1=in;v2=call v1;out v0;d0=v1*v2;v3=high d0;out v3;if v3<v0 goto 1;");
        x.allocate();
        all.add(x);
        x = with(8, 4, 8, "v0=in;w0=in;d0=v0*v0;v1=low d0;w1=v1;out w1;out w0;");
        x.allocate();
        x.input(5, true);
        x.paint(0, 1);
        x.image(true);
        all.add(x);
        x = with(4, 1, 1, "w0=in;w1=in;w2=w0+w1;out w2;");
        due("it FAILS", x.allocate(), NONE);
        tell(x, "goto 41;");
        feed(x, "out v");
        all.add(x);
        return all;
    }

    private static void refusedOnes(RegisterColours x) {
        sentence("a refused call changes nothing");
        String before = everything(x);
        int tape = taped(x);
        for (int far : FAR) {
            for (int what = 0; what < 3; what++) {
                due("set(" + what + ", " + far + ")", x.set(what, far), false);
                due("set(" + far + ", " + (what + 2) + ")", x.set(far, what + 2), false);
                due("set(" + far + ", " + far + ")", x.set(far, far), false);
            }
            due("paint(" + far + ", 0)", x.paint(far, 0), false);
            due("paint(" + far + ", NONE)", x.paint(far, NONE), false);
            due("paint(0, " + far + ")", x.paint(0, far), false);
            due("end(" + far + ")", x.end(far), false);
        }
        due("end(-1)", x.end(-1), false);
        due("end(one more)", x.end(tape + 1), false);
        due("all as it was", everything(x), before);
    }

    private static void asksBeyondBounds(RegisterColours x) {
        String before = everything(x);
        for (int far : FAR) {
            sentence("NONE if there is none such, or another what");
            for (int in = -1; in < 12; in++) {
                due("step", x.step(far, true, in), NONE);
                due("step", x.step(far, false, in), NONE);
                due("step", x.step(in, true, far), NONE);
                due("step", x.step(in, false, far), NONE);
                due("live", x.live(far, in), NONE);
                due("live", x.live(in, far), NONE);
                due("value", x.value(far, in), NONE);
                due("value", x.value(in, far), NONE);
                due("edge", x.edge(far, in), NONE);
                due("edge", x.edge(in, far), NONE);
                due("colour", x.colour(far, in), NONE);
                due("colour", x.colour(in, far), NONE);
                due("run", x.run(far, in), NONE);
                due("run", x.run(in, far), NONE);
            }
            due("live", x.live(far, far), NONE);
            due("value", x.value(far, far), NONE);
            due("edge", x.edge(far, far), NONE);
            due("colour", x.colour(far, far), NONE);
            due("run", x.run(far, far), NONE);
            due("left", x.left(far), NONE);
            due("graph", x.graph(far), NONE);
            due("fault", x.fault(far), NONE);
            sentence("NONE - 99999 for another what");
            due("look", x.look(far), -100000);
        }
        sentence("what is asked changes nothing");
        due("all as it was", everything(x), before);
    }

    private static void fullOnes() {
        sentence("NONE, and nothing comes, if there would be more than 400; NONE if there are 16");
        for (RegisterColours x : objects()) {
            feed(x, " ".repeat(400));
            x.input(0, false);
            for (int i = 0; i < 16; i++) {
                x.input(i, true);
            }
            String before = everything(x);
            due("feed", x.feed(1, 2, 3, 4, 5), NONE);
            due("feed", x.feed(MIN, MAX, -1, 0, 5), NONE);
            due("input", x.input(1, true), NONE);
            due("input", x.input(MIN, true), NONE);
            due("all as it was", everything(x), before);
            due("400 blanks", x.code(), 0);
        }
    }

    private static void fiveHundredAndTwelveCalls() {
        sentence("An object is used for at most 512 calls after it has been made");
        RegisterColours x = with(2, 1, 2, "v0=7;v1=in;v2=call v1;out v0;out v2;");
        int calls = 3 + Lot.fives("v0=7;v1=in;v2=call v1;out v0;out v2;").size() + 3;
        while (calls < 510) {
            due("allocate()", x.allocate(), 2);
            due("image", x.image(calls % 4 < 2), true);
            calls += 2;
        }
        due("allocate()", x.allocate(), 2);
        due("proved(), the last calls", x.proved(), 1);
    }
}
