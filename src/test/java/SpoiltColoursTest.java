import java.lang.reflect.Field;
import java.util.ArrayList;
import java.util.List;
import java.util.Random;

/**
 * ALLOCATE never leaves colours for which PROVED is 0, nor ones by which a CLOBBERED register is read.
 * So some registers of what it left are changed inside the object, and the proof and RUN 1 asked then.
 */
public final class SpoiltColoursTest extends Asked {
    private static final int[] SEEN = new int[2];

    public static void main(String[] args) throws ReflectiveOperationException {
        if (!holdsColoursInLeft()) {
            System.out.println("not asked: this program holds its colours in another way");
            return;
        }
        byHand();
        clobberedByHand();
        int codes = args.length > 0 ? Integer.parseInt(args[0]) : 1500;
        for (int i = 0; i < codes; i++) {
            byLot(new Random(17 * 1000003L + i));
        }
        sentence("1: it is so wherever one can come to; else 0");
        due("both answers were seen", SEEN[0] > codes / 20 && SEEN[1] > codes / 20, true);
        endOfTest();
    }

    /** How the state is held is free: a program without a class Left can't be spoilt by this test. */
    private static boolean holdsColoursInLeft() {
        for (Class<?> inside : RegisterColours.class.getDeclaredClasses()) {
            if (inside.getSimpleName().equals("Left")) {
                return true;
            }
        }
        return false;
    }

    private static int[] registersOf(RegisterColours x) throws ReflectiveOperationException {
        Object told = field(x, "told");
        return (int[]) field(field(told, "left"), "register");
    }

    private static Object field(Object of, String name) throws ReflectiveOperationException {
        Field field = of.getClass().getDeclaredField(name);
        field.setAccessible(true);
        return field.get(of);
    }

    /** Colours of the VALUES told instead of those that ALLOCATE gave. */
    private static RegisterColours spoilt(int k, int clobbered, String text, int... colours) throws ReflectiveOperationException {
        RegisterColours x = with(k, 2, clobbered, text);
        due("ROUNDS of " + text, x.allocate(), 1);
        due("proved() of " + text, x.proved(), 1);
        for (int i = 0; i < colours.length; i += 2) {
            registersOf(x)[colours[i]] = colours[i + 1];
        }
        return x;
    }

    private static void byHand() throws ReflectiveOperationException {
        sentence("known of each register is which VALUES it holds for sure (at the beginning: all)");
        due("never made", spoilt(4, 1, "out v0;out v1;", 8, 3, 9, 3).proved(), 1);
        sentence("behind a STEP that makes X the register of X holds X alone");
        due("v1 over v0", spoilt(4, 1, "v0=in;v1=in;out v0;out v1;", 8, 1, 9, 1).proved(), 0);
        due("v1 over v0, which is read no more", spoilt(4, 1, "v0=in;out v0;v1=in;out v1;", 8, 1, 9, 1).proved(), 1);
        sentence("(a pair: both)");
        String pair = "v0=in;d0=v0*v0;v1=low d0;out v1;out v0;";
        due("over the lower half", spoilt(4, 1, pair, 8, 2, 40, 1).proved(), 0);
        due("over the higher half", spoilt(4, 1, pair, 8, 3, 40, 1).proved(), 0);
        due("beside it", spoilt(4, 1, pair, 8, 1, 40, 1, 9, 0).proved(), 1);
        sentence("(at a MOVE: what the other one held, too; a pair half by half)");
        due("moved, so both are there", spoilt(4, 1, "v0=in;v1=v0;out v0;out v1;", 8, 2, 9, 2).proved(), 1);
        due("brought by a MOVE", spoilt(4, 1, "v0=in;v1=v0;v2=v1;out v0;out v1;", 8, 2, 9, 1, 10, 2).proved(), 1);
        due("not brought by +", spoilt(4, 1, "v0=in;v1=v0+v0;out v0;", 8, 2, 9, 2).proved(), 0);
        due("pairs", spoilt(4, 1, "v0=in;d0=v0*v0;d1=d0;v1=low d0;out v1;v1=low d1;", 40, 1, 41, 1, 9, 0).proved(), 1);
        due("pairs, one half of which is lost", spoilt(4, 1, "v0=in;d0=v0*v0;d1=d0;v1=low d0;out v1;v1=low d1;", 40, 1, 41, 1, 9, 3).proved(), 0);
        String halves = "d0=v0*v0;d1=d0;out v5;v1=low d1;out v1;";
        due("v5 under the lower half", spoilt(4, 1, halves, 40, 0, 41, 1, 13, 2).proved(), 0);
        due("v5 under the higher half", spoilt(4, 1, halves, 40, 0, 41, 1, 13, 3).proved(), 0);
        String moved = "d1=d0;out v5;v1=low d1;out v1;";
        due("v5 in both of a half's registers", spoilt(4, 1, moved, 40, 0, 41, 1, 13, 2).proved(), 1);
        due("v5 in both of a half's registers", spoilt(4, 1, moved, 40, 0, 41, 1, 13, 3).proved(), 1);
        due("v5 lost in the lower half alone", spoilt(4, 1, "v3=in;out v3;d1=d0;out v5;v1=low d1;", 11, 0, 40, 0, 41, 1, 13, 2).proved(), 0);
        sentence("and no other register holds X");
        // v0 is made twice; its older copy in the register of v1 is not v0 any more.
        due("an older one", spoilt(4, 1, "v0=in;v1=v0;v0=in;out v0;out v1;", 8, 1, 9, 1).proved(), 0);
        sentence("behind a CALL those CLOBBERED hold nothing, but r0 the VALUE r0, which no other one holds");
        String call = "v0=in;v1=call v2;out v0;";
        for (int c = 1; c <= 4; c++) {
            for (int r = 0; r < 4; r++) {
                RegisterColours x = with(5, 1, c, call);
                x.allocate();
                registersOf(x)[8] = r;
                due("CLOBBERED " + c + ", v0 in r" + r, x.proved(), r < c ? 0 : 1);
            }
        }
        sentence("where ways come together, what is held on all of them");
        String ways = "if w0<w1 goto 3;v0=in;goto 4;v1=in;out v0;";
        due("on one way v1 is over v0", spoilt(4, 1, ways, 8, 1, 9, 1).proved(), 0);
        due("on neither", spoilt(4, 1, ways, 8, 1, 9, 2).proved(), 1);
        due("round the loop v1 is over v0", spoilt(4, 1, "out v0;v1=in;goto 0;", 8, 1, 9, 1).proved(), 0);
        sentence("1: it is so wherever one can come to; else 0");
        due("nobody comes to LINE 3", spoilt(4, 1, "v0=in;v1=in;goto 4;out v0;out v1;", 8, 1, 9, 1).proved(), 1);
    }

    private static void clobberedByHand() throws ReflectiveOperationException {
        sentence("a CALL makes each one CLOBBERED but r0 12345 and its number");
        for (int c = 1; c <= 7; c++) {
            for (int r = 0; r < 8; r++) {
                RegisterColours x = with(8, 1, c, "v0=5;v1=call v2;out v0;");
                x.allocate();
                registersOf(x)[8] = r;
                // In r0 it is also what the call is of: v2 has r0, too.
                int due = r == 0 ? 7 * 5 + 3 : r < c ? 12345 + r : 5;
                due("CLOBBERED " + c + ", v0 in r" + r, x.run(1, 3), due);
                due("RUN 0 makes nothing else other", x.run(0, 3), 5);
            }
        }
        sentence("a pair is its two registers, the lower half in the even one");
        RegisterColours x = with(8, 1, 1, "v0=9999;d0=v0*v0;v1=3;out v1;v2=low d0;out v2;v2=high d0;out v2;");
        x.allocate();
        registersOf(x)[40] = 2;
        registersOf(x)[9] = 4;
        due("3 over the lower half", x.run(1, 3), 31 * (31 * 3 + 3));
        x = with(8, 1, 1, "v0=9999;d0=v0*v0;v1=3;out v1;v2=low d0;out v2;v2=high d0;out v2;");
        x.allocate();
        registersOf(x)[40] = 2;
        registersOf(x)[9] = 5;
        due("3 over the higher half", x.run(1, 3), 31 * (31 * 3 + 99980001) + 3);
    }

    private static void byLot(Random lot) throws ReflectiveOperationException {
        RegisterColours x = new RegisterColours();
        Twin twin = new Twin();
        int k = 2 + lot.nextInt(7);
        int[] v = {k, 1 + lot.nextInt(4), 1 + lot.nextInt(k)};
        String text = lot.nextBoolean() ? Lot.pressed(lot) : Lot.code(lot);
        for (int what = 0; what < 3; what++) {
            x.set(what, v[what]);
            twin.set(what, v[what]);
        }
        for (int i = 0; i < 6; i++) {
            int number = lot.nextInt(20);
            x.input(number, true);
            twin.input(number, true);
        }
        for (int[] five : Lot.fives(text)) {
            twin.feed(five);
        }
        twin.end(text.length());
        sentence("spoilt by lot: " + text);
        due("code()", tell(x, text), twin.code());
        if (x.allocate() < 0 || twin.allocate() < 0) {
            return;
        }
        change(lot, x, twin, 1 + lot.nextInt(3));
        int proved = twin.proved();
        SEEN[proved]++;
        due("proved()", x.proved(), proved);
        for (int what = 0; what < 4; what++) {
            due("run(1, " + what + ")", x.run(1, what), twin.run(1, what));
        }
    }

    private static void change(Random lot, RegisterColours x, Twin twin, int many) throws ReflectiveOperationException {
        List<Integer> there = new ArrayList<>();
        for (int v = 8; v < 200; v++) {
            if (x.colour(v, 0) != NONE) {
                there.add(v);
            }
        }
        for (int i = 0; i < many && !there.isEmpty(); i++) {
            int v = there.get(lot.nextInt(there.size()));
            char its = twin.model.left.classes.get(v);
            int most = its == Model.A ? twin.look(2) : its == Model.B ? twin.look(3) : twin.look(2) / 2;
            int register = lot.nextInt(most);
            registersOf(x)[v] = register;
            twin.model.left.register.put(v, register);
        }
    }
}
