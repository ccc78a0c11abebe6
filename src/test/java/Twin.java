import java.util.ArrayList;
import java.util.List;
import java.util.TreeMap;

/** The document's whole face over the model, call by call as the program has it. */
final class Twin {
    private static final int NONE = -1;
    Model model = new Model();
    private Model kept = null;
    private StringBuilder tape = new StringBuilder();
    private int fault = 0;
    private int faultPlace = NONE;
    private Model.Drawn drawn = null;

    private Model.Drawn drawn() {
        if (drawn == null) {
            drawn = model.drawn();
        }
        return drawn;
    }

    private void toldAnew() {
        model.left = null;
        drawn = null;
    }

    private boolean isValue(int x) {
        return x >= 0 && x < model.k || x >= 8 && x < 44;
    }

    boolean set(int what, int v) {
        int[] least = {2, 1, 1};
        int[] most = {8, 4, model.k};
        if (what < 0 || what > 2 || v < least[what] || v > most[what]) {
            return false;
        }
        model.k = what == 0 ? v : model.k;
        model.m = what == 1 ? v : model.m;
        model.clobbered = what == 2 ? v : Math.min(model.clobbered, model.k);
        toldAnew();
        return true;
    }

    int feed(int... five) {
        if (tape.length() > 380) {
            return NONE;
        }
        for (int four : five) {
            for (int shift = 24; shift >= 0; shift -= 8) {
                tape.append((char) (four >> shift & 255));
            }
        }
        return tape.length();
    }

    boolean end(int n) {
        if (n < 0 || n > tape.length()) {
            return false;
        }
        tape.setLength(n);
        return true;
    }

    int code() {
        String text = tape.toString();
        tape = new StringBuilder();
        int lines = model.tell(text);
        fault = model.fault;
        faultPlace = model.faultPlace;
        if (lines != NONE) {
            toldAnew();
        }
        return lines;
    }

    int fault(int what) {
        return what == 0 ? fault : what == 1 ? faultPlace : NONE;
    }

    int input(int v, boolean told) {
        if (!told) {
            model.input = new ArrayList<>();
            return 0;
        }
        if (model.input.size() == 16) {
            return NONE;
        }
        model.input.add(v);
        return model.input.size();
    }

    int allocate() {
        return model.allocate();
    }

    int step(int i, boolean left, int what) {
        if (left && model.left == null) {
            return NONE;
        }
        List<Model.Step> steps = left ? model.left.steps : model.code;
        if (i < 0 || i >= steps.size() - 1) {
            return NONE;
        }
        Model.Step s = steps.get(i);
        return switch (what) {
            case 0 -> s.kind;
            case 1 -> s.made;
            case 2 -> s.read(0);
            case 3 -> s.read(1);
            case 4 -> s.jumps() ? steps.indexOf(s.target) : s.number;
            case 5 -> left ? NONE : drawn().weight(i);
            case 6 -> left ? model.left.register.getOrDefault(s.made, NONE) : NONE;
            case 7 -> left ? model.left.register.getOrDefault(s.read(0), NONE) : NONE;
            case 8 -> left ? model.left.register.getOrDefault(s.read(1), NONE) : NONE;
            default -> NONE;
        };
    }

    int live(int i, int x) {
        if (i < 0 || i >= model.code.size() - 1 || !isValue(x)) {
            return NONE;
        }
        return drawn().live.get(i).contains(x) ? 1 : 0;
    }

    int value(int x, int what) {
        if (!isValue(x)) {
            return NONE;
        }
        return switch (what) {
            case 0 -> drawn().there.contains(x) ? 1 : 0;
            case 1 -> drawn().cost.getOrDefault(x, 0);
            case 2 -> drawn().degree(x);
            case 3 -> drawn().limit(x);
            case 4 -> drawn().heavy(x) ? 1 : 0;
            default -> NONE;
        };
    }

    int edge(int x, int y) {
        return !isValue(x) || !isValue(y) ? NONE : drawn().near(x).contains(y) ? 1 : 0;
    }

    int colour(int x, int what) {
        if (model.left == null || x < 0 || x > 199 || x >= model.k && x < 8) {
            return NONE;
        }
        return switch (what) {
            case 0 -> model.left.register.getOrDefault(x, NONE);
            case 1 -> model.left.fate.getOrDefault(x, 0);
            case 2 -> model.left.node.getOrDefault(x, NONE);
            default -> NONE;
        };
    }

    int left(int what) {
        Model.Allocation left = model.left;
        if (left == null) {
            return NONE;
        }
        return switch (what) {
            case 0 -> left.rounds;
            case 1 -> left.steps.size() - 1;
            case 2 -> left.slots;
            case 3 -> left.spilled;
            case 4 -> left.anew;
            case 5 -> left.merged;
            case 6 -> model.movesInPlace();
            case 7 -> model.moves();
            case 8 -> (int) model.used().stream().filter(r -> r < 100).count();
            case 9 -> (int) model.used().stream().filter(r -> r >= 100).count();
            case 10 -> left.cost;
            case 11 -> left.saved;
            default -> NONE;
        };
    }

    int run(int which, int what) {
        if (which < 0 || which > 1 || which == 1 && model.left == null || what < 0 || what > 3) {
            return NONE;
        }
        return model.run(which == 1)[what];
    }

    int proved() {
        return model.left == null ? NONE : model.proved() ? 1 : 0;
    }

    int graph(int what) {
        return switch (what) {
            case 0 -> model.fewest() == NONE ? 0 : 1;
            case 1 -> model.fewest();
            case 2 -> model.clashes();
            case 3 -> model.heaviest();
            default -> NONE;
        };
    }

    boolean paint(int x, int colour) {
        if (x < 0 || x > 23 || colour < NONE || colour > 7) {
            return false;
        }
        model.painted.remove(x);
        if (colour != NONE) {
            model.painted.put(x, colour);
        }
        return true;
    }

    boolean image(boolean taken) {
        if (taken) {
            kept = copy(model);
            return true;
        }
        if (kept == null) {
            return false;
        }
        model = copy(kept);
        drawn = null;
        return true;
    }

    /** Lists of STEPS and allocations are never changed once they stand, so they need no copy. */
    private static Model copy(Model from) {
        Model to = new Model();
        to.k = from.k;
        to.m = from.m;
        to.clobbered = from.clobbered;
        to.lines = from.lines;
        to.code = from.code;
        to.left = from.left;
        to.input = new ArrayList<>(from.input);
        to.painted = new TreeMap<>(from.painted);
        return to;
    }

    int look(int what) {
        return switch (what) {
            case 0 -> model.lines;
            case 1 -> model.code.size() - 1;
            case 2 -> model.k;
            case 3 -> model.m;
            case 4 -> model.clobbered;
            case 5 -> model.input.size();
            case 6 -> drawn().there.size() - model.k;
            case 7 -> model.edges();
            case 8 -> drawn().moves();
            case 9 -> model.painted.size();
            case 10 -> model.left != null ? 1 : 0;
            default -> -100000;
        };
    }
}
