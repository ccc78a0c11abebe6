import java.util.Random;

/** An object that has been told and asked much answers as a new one that is told the latest alone. */
public final class ReusedObjectTest extends Asked {
    public static void main(String[] args) {
        int runs = args.length > 0 ? Integer.parseInt(args[0]) : 60;
        shrinkingCodes();
        allocatingAgain();
        for (int i = 0; i < runs; i++) {
            byLot(new Random(29 * 1000003L + i));
        }
        endOfTest();
    }

    private static RegisterColours told(RegisterColours x, int k, int m, int clobbered, String text) {
        x.set(0, k);
        x.set(1, m);
        x.set(2, clobbered);
        due(text, tell(x, text) >= 0, true);
        return x;
    }

    private static void same(RegisterColours used, int k, int m, int clobbered, String text) {
        told(used, k, m, clobbered, text);
        RegisterColours fresh = told(new RegisterColours(), k, m, clobbered, text);
        due("ahead of allocate(): " + text, everything(used), everything(fresh));
        due("allocate() of " + text, used.allocate(), fresh.allocate());
        due("behind allocate(): " + text, everything(used), everything(fresh));
    }

    private static void shrinkingCodes() {
        sentence("With THE CODE told anew what ALLOCATE left is gone");
        RegisterColours used = new RegisterColours();
        String[] lines = {"v0=v1;", "d0=d1;", "if v0<v1 goto 0;", "v0=call v1;", "out w1;", "v9=7;", "w0=w1*w2;", "goto 0;", "d3=v22*v23;"};
        for (String line : lines) {
            for (int many = 400 / line.length(); many >= 0; many = many > 4 ? many / 2 : many - 1) {
                if (many <= 40) {
                    same(used, 2 + many % 7, 2, 1, line.repeat(many));
                }
            }
        }
    }

    private static void allocatingAgain() {
        sentence("ALLOCATE: how many ROUNDS");
        RegisterColours used = new RegisterColours();
        String spills = "v0=in;v1=7;v2=in;d0=v0*v2;w0=in;w1=w0;w2=in;out w1;out w2;out v1;out v0;v3=high d0;out v3;out v2;";
        for (int i = 0; i < 3; i++) {
            same(used, 2, 1, 2, spills);
            String first = everything(used);
            due("once more", used.allocate(), used.left(0));
            due("all as it was", everything(used), first);
            same(used, 2, 1, 2, "v0=in;v1=in;v2=in;out v0;out v1;out v2;");
            same(used, 8, 4, 1, spills);
            same(used, 2, 1, 1, "w0=in;w1=in;w2=w0+w1;out w2;");
            same(used, 2, 1, 1, "");
        }
    }

    private static void byLot(Random lot) {
        sentence("told by lot");
        RegisterColours used = new RegisterColours();
        for (int i = 0; i < 5; i++) {
            String text = lot.nextBoolean() ? Lot.pressed(lot) : Lot.code(lot);
            if (isSound(text)) {
                int k = 2 + lot.nextInt(lot.nextBoolean() ? 2 : 7);
                same(used, k, 1 + lot.nextInt(4), 1 + lot.nextInt(k), text);
            }
        }
    }

    /** A text drawn by lot may have jumps that go too far. */
    private static boolean isSound(String text) {
        return tell(new RegisterColours(), text) >= 0;
    }
}
