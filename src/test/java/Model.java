import java.util.ArrayDeque;
import java.util.ArrayList;
import java.util.Arrays;
import java.util.Collections;
import java.util.Comparator;
import java.util.HashMap;
import java.util.HashSet;
import java.util.List;
import java.util.Map;
import java.util.Set;
import java.util.TreeMap;
import java.util.TreeSet;

/**
 * The document written down a second time, by sets and maps and by other ways than the program's
 * where there are others, so that both can be asked the same and their answers compared.
 */
final class Model {
    static final int NONE = -1;
    static final char A = 'A';
    static final char B = 'B';
    static final char D = 'D';

    /** One STEP; jumps hold the STEP they go to, so that rewriting needs no numbers. */
    static final class Step {
        int kind;
        int made = NONE;
        List<Integer> reads = new ArrayList<>();
        int number = NONE;
        Step target;

        Step(int kind, int made, int number, Integer... reads) {
            this.kind = kind;
            this.made = made;
            this.number = number;
            this.reads.addAll(Arrays.asList(reads));
        }

        int read(int at) {
            return at < reads.size() ? reads.get(at) : NONE;
        }

        boolean jumps() {
            return kind == 9 || kind == 10;
        }
    }

    int k = 4;
    int m = 2;
    int clobbered = 1;
    int lines = 0;
    List<Step> code = new ArrayList<>(List.of(new Step(99, NONE, NONE)));
    List<Integer> input = new ArrayList<>();
    Map<Integer, Integer> painted = new TreeMap<>();
    Allocation left = null;
    int fault = 0;
    int faultPlace = NONE;
    String whyFailed = "";

    // ---- the text ----

    static final String[] SHAPES = {
        "v # = # ;", "v # = in ;", "v # = v # ;", "v # = w # ;",
        "w # = # ;", "w # = in ;", "w # = v # ;", "w # = w # ;", "d # = d # ;",
        "v # = v # + v # ;", "v # = v # - v # ;", "v # = v # * v # ;",
        "w # = w # + w # ;", "w # = w # - w # ;", "w # = w # * w # ;", "d # = v # * v # ;",
        "v # = call v # ;", "v # = low d # ;", "v # = high d # ;",
        "if v # < v # goto # ;", "if w # < w # goto # ;", "goto # ;", "out v # ;", "out w # ;",
    };

    private record Token(String text, int place) {
        boolean isNumber() {
            return text.matches("[0-9]{1,4}");
        }

        boolean isLetter() {
            return text.equals("v") || text.equals("w") || text.equals("d");
        }
    }

    private static List<Token> cut(String text) {
        List<Token> tokens = new ArrayList<>();
        java.util.regex.Matcher at = java.util.regex.Pattern.compile("[a-zA-Z]+|[0-9]+|[^ \n]").matcher(text);
        while (at.find()) {
            tokens.add(new Token(at.group(), at.start()));
        }
        tokens.add(new Token("", text.length()));
        return tokens;
    }

    int tell(String text) {
        fault = 0;
        faultPlace = NONE;
        List<Token> tokens = cut(text);
        List<List<Token>> read = new ArrayList<>();
        int at = 0;
        while (!tokens.get(at).text.isEmpty()) {
            List<Token> line = new ArrayList<>();
            at = tellLine(tokens, at, line, read.size());
            if (fault != 0) {
                return NONE;
            }
            read.add(line);
        }
        for (List<Token> line : read) {
            Token last = line.get(line.size() - 2);
            if (line.stream().anyMatch(t -> t.text.equals("goto")) && Integer.parseInt(last.text) > read.size()) {
                blame(5, last);
                return NONE;
            }
        }
        build(read);
        left = null;
        return lines;
    }

    private int tellLine(List<Token> tokens, int from, List<Token> line, int lineNumber) {
        List<String[]> shapes = new ArrayList<>();
        for (String shape : SHAPES) {
            shapes.add(shape.split(" "));
        }
        for (int at = from; ; at++) {
            Token token = tokens.get(at);
            int place = at - from;
            List<String[]> fit = new ArrayList<>();
            boolean lettersMay = false;
            for (String[] shape : shapes) {
                lettersMay |= List.of("v", "w", "d").contains(shape[place]);
                if (shape[place].equals("#") ? token.isNumber() : shape[place].equals(token.text)) {
                    fit.add(shape);
                }
            }
            if (fit.isEmpty()) {
                blame(token.isLetter() && lettersMay ? 4 : 1, token);
                return NONE;
            }
            if (at == from && lineNumber == 40) {
                blame(3, token);
                return NONE;
            }
            if (token.isNumber() && Integer.parseInt(token.text) > bound(tokens.get(at - 1).text)) {
                blame(2, token);
                return NONE;
            }
            line.add(token);
            shapes = fit;
            if (token.text.equals(";")) {
                return at + 1;
            }
        }
    }

    private static int bound(String ahead) {
        return switch (ahead) {
            case "v" -> 23;
            case "w" -> 7;
            case "d" -> 3;
            case "goto" -> 40;
            default -> 9999;
        };
    }

    private void blame(int what, Token token) {
        fault = what;
        faultPlace = token.place;
    }

    private void build(List<List<Token>> read) {
        List<Step> steps = new ArrayList<>();
        List<Step> firsts = new ArrayList<>();
        for (List<Token> line : read) {
            List<Step> made = stepsOf(line);
            firsts.add(made.get(0));
            steps.addAll(made);
        }
        Step end = new Step(99, NONE, NONE);
        firsts.add(end);
        steps.add(end);
        for (Step step : steps) {
            if (step.jumps()) {
                step.target = firsts.get(step.number);
            }
        }
        code = steps;
        lines = read.size();
    }

    private static List<Step> stepsOf(List<Token> line) {
        List<Integer> xs = new ArrayList<>();
        StringBuilder rest = new StringBuilder();
        int number = NONE;
        for (int i = 0; i < line.size(); i++) {
            Token token = line.get(i);
            if (token.isLetter()) {
                int base = token.text.equals("v") ? 8 : token.text.equals("w") ? 32 : 40;
                xs.add(base + Integer.parseInt(line.get(i + 1).text));
                i++;
            } else if (token.isNumber()) {
                number = Integer.parseInt(token.text);
            } else {
                rest.append(token.text);
            }
        }
        int x = xs.isEmpty() ? NONE : xs.get(0);
        Integer[] behind = xs.isEmpty() ? new Integer[0] : xs.subList(1, xs.size()).toArray(new Integer[0]);
        Integer[] all = xs.toArray(new Integer[0]);
        return switch (rest.toString()) {
            case "=in;" -> List.of(new Step(1, x, NONE));
            case "=;" -> List.of(number >= 0 ? new Step(0, x, number) : new Step(2, x, NONE, behind));
            case "=+;" -> List.of(new Step(3, x, NONE, behind));
            case "=-;" -> List.of(new Step(4, x, NONE, behind));
            case "=*;" -> List.of(new Step(5, x, NONE, behind));
            case "=call;" -> List.of(new Step(2, 0, NONE, behind), new Step(6, 0, NONE, 0), new Step(2, x, NONE, 0));
            case "=low;" -> List.of(new Step(7, x, NONE, behind));
            case "=high;" -> List.of(new Step(8, x, NONE, behind));
            case "if<goto;" -> List.of(new Step(9, NONE, number, all));
            case "goto;" -> List.of(new Step(10, NONE, number));
            case "out;" -> List.of(new Step(11, NONE, NONE, all));
            default -> throw new IllegalStateException(rest.toString());
        };
    }

    // ---- the graph of section 2 ----

    static char classAtFirst(int x) {
        return x < 32 ? A : x < 40 ? B : D;
    }

    static Map<Integer, Character> classesAtFirst() {
        Map<Integer, Character> classes = new HashMap<>();
        for (int x = 0; x < 44; x++) {
            classes.put(x, classAtFirst(x));
        }
        return classes;
    }

    /** STEPS with the graph that is drawn of them. */
    final class Drawn {
        final List<Step> steps;
        final Map<Integer, Character> classes;
        final List<Set<Integer>> live = new ArrayList<>();
        final Map<Integer, Set<Integer>> edges = new TreeMap<>();
        final Map<Integer, Integer> cost = new TreeMap<>();
        final Set<Integer> there = new TreeSet<>();

        Drawn(List<Step> steps, Map<Integer, Character> classes) {
            this.steps = steps;
            this.classes = classes;
            for (int i = 0; i < steps.size(); i++) {
                live.add(new TreeSet<>());
            }
            for (int i = 0; i < count(); i++) {
                for (int x : steps.get(i).reads) {
                    spread(i, x);
                }
            }
            for (int x = 0; x < k; x++) {
                there.add(x);
                for (int y = 0; y < x; y++) {
                    join(x, y);
                }
            }
            for (int i = 0; i < count(); i++) {
                drawStep(i);
            }
            for (int x : there) {
                edges.computeIfAbsent(x, z -> new TreeSet<>());
                cost.merge(x, x >= 44 ? 1000000 : 0, Integer::sum);
            }
        }

        int count() {
            return steps.size() - 1;
        }

        Set<Integer> makes(int i) {
            Set<Integer> made = new TreeSet<>();
            if (steps.get(i).kind == 6) {
                for (int x = 0; x < clobbered; x++) {
                    made.add(x);
                }
            } else if (steps.get(i).made != NONE) {
                made.add(steps.get(i).made);
            }
            return made;
        }

        Set<Integer> followers(int i) {
            Set<Integer> after = new TreeSet<>();
            Step step = steps.get(i);
            if (step.kind != 10) {
                after.add(i + 1);
            }
            if (step.jumps()) {
                after.add(steps.indexOf(step.target));
            }
            return after;
        }

        /** Live backwards from one read, by walking the ways that lead to it. */
        private void spread(int from, int x) {
            ArrayDeque<Integer> open = new ArrayDeque<>();
            if (live.get(from).add(x)) {
                open.add(from);
            }
            while (!open.isEmpty()) {
                int at = open.poll();
                for (int i = 0; i < count(); i++) {
                    if (followers(i).contains(at) && !makes(i).contains(x) && live.get(i).add(x)) {
                        open.add(i);
                    }
                }
            }
        }

        int weight(int i) {
            int depth = 0;
            for (int j = i; j < count(); j++) {
                if (steps.get(j).jumps() && steps.indexOf(steps.get(j).target) <= i) {
                    depth++;
                }
            }
            return new int[] {1, 10, 100, 1000}[Math.min(depth, 3)];
        }

        boolean isMove(Step step) {
            return step.kind == 2 && classes.get(step.made).equals(classes.get(step.read(0)));
        }

        private void drawStep(int i) {
            Step step = steps.get(i);
            int weight = weight(i);
            for (int x : step.reads) {
                there.add(x);
                cost.merge(x, weight, Integer::sum);
            }
            for (int x : makes(i)) {
                there.add(x);
                cost.merge(x, weight, Integer::sum);
                for (int next : followers(i)) {
                    for (int y : live.get(next)) {
                        boolean moved = isMove(step) && y == step.read(0);
                        if (y != x && !moved && share(x, y)) {
                            join(x, y);
                        }
                    }
                }
            }
        }

        private boolean share(int x, int y) {
            return (classes.get(x) == B) == (classes.get(y) == B);
        }

        private void join(int x, int y) {
            edges.computeIfAbsent(x, z -> new TreeSet<>()).add(y);
            edges.computeIfAbsent(y, z -> new TreeSet<>()).add(x);
        }

        Set<Integer> near(int x) {
            return edges.getOrDefault(x, Set.of());
        }

        int counts(int node, int neighbour) {
            return classes.get(node) == A && classes.get(neighbour) == D ? 2 : 1;
        }

        int degree(int x) {
            return near(x).stream().mapToInt(y -> counts(x, y)).sum();
        }

        int limit(int x) {
            return classes.get(x) == A ? k : classes.get(x) == B ? m : k / 2;
        }

        boolean heavy(int x) {
            return x < 8 || degree(x) >= limit(x);
        }

        int moves() {
            int many = 0;
            for (Step step : steps) {
                many += isMove(step) ? 1 : 0;
            }
            return many;
        }
    }

    Drawn drawn() {
        return new Drawn(code, classesAtFirst());
    }

    // ---- ALLOCATE ----

    /** What ALLOCATE leaves. */
    static final class Allocation {
        List<Step> steps;
        Map<Integer, Character> classes;
        Map<Integer, Integer> register = new HashMap<>();
        Map<Integer, Integer> node = new HashMap<>();
        Map<Integer, Integer> fate = new HashMap<>();
        int rounds;
        int slots;
        int spilled;
        int anew;
        int merged;
        int saved;
        int cost;
        int values = 44;
    }

    int allocate() {
        Allocation made = new Allocation();
        made.steps = copy(code);
        made.classes = classesAtFirst();
        for (int round = 1; round <= 8; round++) {
            made.rounds = round;
            if (doRound(made)) {
                left = made;
                return round;
            }
            if (made.steps.size() - 1 > 400 || made.values > 200) {
                whyFailed = "too many";
                return NONE;
            }
        }
        whyFailed = "eighth round";
        return NONE;
    }

    static List<Step> copy(List<Step> steps) {
        Map<Step, Step> copies = new HashMap<>();
        List<Step> all = new ArrayList<>();
        for (Step step : steps) {
            Step other = new Step(step.kind, step.made, step.number, step.reads.toArray(new Integer[0]));
            copies.put(step, other);
            all.add(other);
        }
        for (Step step : steps) {
            copies.get(step).target = copies.get(step.target);
        }
        return all;
    }

    private boolean doRound(Allocation made) {
        Drawn g = new Drawn(made.steps, made.classes);
        Map<Integer, Integer> node = new TreeMap<>();
        for (int x : g.there) {
            node.put(x, x);
        }
        made.merged = merge(g, node);
        Map<Integer, Set<Integer>> whole = new TreeMap<>();
        g.edges.forEach((x, near) -> whole.put(x, new TreeSet<>(near)));
        List<Integer> stack = new ArrayList<>();
        Set<Integer> heavyOnes = new HashSet<>();
        lay(g, stack, heavyOnes);
        Map<Integer, Set<Integer>> taken = new TreeMap<>();
        Map<Integer, Integer> register = new TreeMap<>();
        for (int x = 0; x < k; x++) {
            taken.put(x, Set.of(x));
            register.put(x, x);
        }
        Set<Integer> spilled = new TreeSet<>();
        Collections.reverse(stack);
        for (int x : stack) {
            int found = firstFree(g, whole, taken, x);
            if (found == NONE) {
                spilled.add(x);
            } else {
                taken.put(x, registers(made.classes.get(x), found));
                register.put(x, found);
                made.saved += heavyOnes.contains(x) ? 1 : 0;
            }
        }
        if (spilled.isEmpty()) {
            made.node.putAll(node);
            node.forEach((x, n) -> made.register.put(x, register.get(n)));
            return true;
        }
        for (int n : spilled) {
            made.cost += g.cost.get(n);
        }
        spill(made, g, node, spilled);
        return false;
    }

    private int firstFree(Drawn g, Map<Integer, Set<Integer>> whole, Map<Integer, Set<Integer>> taken, int x) {
        for (int r = 0; r < g.limit(x); r++) {
            Set<Integer> wanted = registers(g.classes.get(x), r);
            boolean free = true;
            for (int y : whole.get(x)) {
                free &= Collections.disjoint(wanted, taken.getOrDefault(y, Set.of()));
            }
            if (free) {
                return r;
            }
        }
        return NONE;
    }

    static Set<Integer> registers(char its, int number) {
        if (its == D) {
            return Set.of(2 * number, 2 * number + 1);
        }
        return Set.of(its == B ? 100 + number : number);
    }

    private int merge(Drawn g, Map<Integer, Integer> node) {
        List<Integer> moves = new ArrayList<>();
        for (int i = 0; i < g.count(); i++) {
            if (g.isMove(g.steps.get(i))) {
                moves.add(i);
            }
        }
        moves.sort(Comparator.comparing((Integer i) -> -g.weight(i)).thenComparing(i -> i));
        int merged = 0;
        int before;
        do {
            before = merged;
            for (int i : moves) {
                int a = node.get(g.steps.get(i).made);
                int b = node.get(g.steps.get(i).read(0));
                int stays = Math.min(a, b);
                int goes = Math.max(a, b);
                if (a != b && goes >= 8 && !g.near(a).contains(b) && safe(g, stays, goes)) {
                    unite(g, node, stays, goes);
                    merged++;
                }
            }
        } while (merged != before);
        return merged;
    }

    private static void unite(Drawn g, Map<Integer, Integer> node, int stays, int goes) {
        for (int n : new ArrayList<>(g.near(goes))) {
            g.edges.get(n).remove(goes);
            g.edges.get(n).add(stays);
            g.edges.get(stays).add(n);
        }
        g.edges.remove(goes);
        g.cost.put(stays, g.cost.get(stays) + g.cost.get(goes));
        node.replaceAll((x, n) -> n == goes ? stays : n);
    }

    private boolean safe(Drawn g, int a, int b) {
        if (a < 8) {
            for (int n : g.near(b)) {
                if (n >= 8 && g.heavy(n) && !g.near(n).contains(a)) {
                    return false;
                }
            }
            return true;
        }
        // The union is made for real in a copy of the edges, and degrees are counted there.
        Set<Integer> both = new TreeSet<>(g.near(a));
        both.addAll(g.near(b));
        int heavy = 0;
        for (int n : both) {
            Set<Integer> nears = new TreeSet<>(g.near(n));
            nears.remove(b);
            nears.add(a);
            int degree = nears.stream().mapToInt(y -> g.counts(n, y)).sum();
            if (n < 8 || degree >= g.limit(n)) {
                heavy += g.counts(a, n);
            }
        }
        return heavy < g.limit(a);
    }

    private static void lay(Drawn g, List<Integer> stack, Set<Integer> heavyOnes) {
        while (g.edges.keySet().stream().anyMatch(x -> x >= 8)) {
            int best = NONE;
            for (int x : g.edges.keySet()) {
                if (x >= 8 && !g.heavy(x)) {
                    best = x;
                    break;
                }
            }
            if (best == NONE) {
                for (int x : g.edges.keySet()) {
                    if (x >= 8 && (best == NONE || cheaper(g, x, best))) {
                        best = x;
                    }
                }
                heavyOnes.add(best);
            }
            for (int n : g.near(best)) {
                g.edges.get(n).remove(best);
            }
            g.edges.remove(best);
            stack.add(best);
        }
    }

    private static boolean cheaper(Drawn g, int x, int y) {
        java.math.BigInteger a = java.math.BigInteger.valueOf(g.cost.get(x)).multiply(java.math.BigInteger.valueOf(g.degree(y)));
        java.math.BigInteger b = java.math.BigInteger.valueOf(g.cost.get(y)).multiply(java.math.BigInteger.valueOf(g.degree(x)));
        return a.compareTo(b) < 0;
    }

    private void spill(Allocation made, Drawn g, Map<Integer, Integer> node, Set<Integer> spilled) {
        Map<Integer, Integer> slot = new HashMap<>();
        Map<Integer, Integer> number = new HashMap<>();
        for (int n : spilled) {
            Set<Integer> told = new TreeSet<>();
            boolean others = false;
            for (Step step : made.steps) {
                boolean makes = step.made >= 8 && node.get(step.made) == n;
                boolean within = g.isMove(step) && node.get(step.made).equals(node.get(step.read(0)));
                if (makes && !within) {
                    told.add(step.number);
                    others |= step.kind != 0;
                }
            }
            boolean anew = told.size() == 1 && !others;
            if (anew) {
                number.put(n, told.iterator().next());
                made.anew++;
            } else {
                slot.put(n, made.slots++);
            }
            made.spilled++;
            node.forEach((x, itsNode) -> {
                if (itsNode == n) {
                    made.fate.put(x, anew ? 2 : 1);
                }
            });
        }
        made.steps = rewrite(made, g, node, slot, number);
    }

    private static List<Step> rewrite(Allocation made, Drawn g, Map<Integer, Integer> node,
            Map<Integer, Integer> slot, Map<Integer, Integer> number) {
        List<List<Step>> parts = new ArrayList<>();
        for (Step step : made.steps) {
            List<Step> part = new ArrayList<>();
            parts.add(part);
            int madeNode = step.made == NONE ? NONE : node.get(step.made);
            boolean isSpilled = slot.containsKey(madeNode) || number.containsKey(madeNode);
            boolean within = isSpilled && g.isMove(step) && node.get(step.read(0)) == madeNode;
            if (within || number.containsKey(madeNode)) {
                continue;
            }
            Map<Integer, Integer> fresh = new HashMap<>();
            for (int x : step.reads) {
                int n = node.get(x);
                if (!fresh.containsKey(x) && (slot.containsKey(n) || number.containsKey(n))) {
                    int t = made.values++;
                    made.classes.put(t, made.classes.get(x));
                    fresh.put(x, t);
                    part.add(slot.containsKey(n) ? new Step(12, t, slot.get(n)) : new Step(0, t, number.get(n)));
                }
            }
            Step other = new Step(step.kind, step.made, step.number);
            other.target = step.target;
            for (int x : step.reads) {
                other.reads.add(fresh.getOrDefault(x, x));
            }
            part.add(other);
            if (slot.containsKey(madeNode)) {
                int t = made.values++;
                made.classes.put(t, made.classes.get(step.made));
                other.made = t;
                part.add(new Step(13, NONE, slot.get(madeNode), t));
            }
        }
        List<Step> all = new ArrayList<>();
        Map<Step, Step> first = new HashMap<>();
        List<Step> waiting = new ArrayList<>();
        for (int i = 0; i < parts.size(); i++) {
            waiting.add(made.steps.get(i));
            if (!parts.get(i).isEmpty()) {
                for (Step step : waiting) {
                    first.put(step, parts.get(i).get(0));
                }
                waiting.clear();
            }
            all.addAll(parts.get(i));
        }
        for (Step step : all) {
            if (step.jumps()) {
                step.target = first.get(step.target);
            }
        }
        return all;
    }

    // ---- running ----

    int[] run(boolean ofLeft) {
        List<Step> steps = ofLeft ? left.steps : code;
        Map<Integer, Character> classes = ofLeft ? left.classes : classesAtFirst();
        Map<Integer, Integer> words = new HashMap<>();
        Map<Integer, Long> slots = new HashMap<>();
        int at = 0;
        int done = 0;
        int outs = 0;
        int number = 0;
        int next = 0;
        while (at < steps.size() - 1 && done < 2000) {
            done++;
            Step step = steps.get(at);
            at++;
            long a = step.reads.isEmpty() ? 0 : get(words, classes, step.read(0), ofLeft);
            long b = step.reads.size() < 2 ? 0 : get(words, classes, step.read(1), ofLeft);
            switch (step.kind) {
                case 0 -> put(words, classes, step.made, step.number, ofLeft);
                case 1 -> {
                    put(words, classes, step.made, next < input.size() ? input.get(next) : 0, ofLeft);
                    next++;
                }
                case 2 -> put(words, classes, step.made, a, ofLeft);
                case 3 -> put(words, classes, step.made, a + b, ofLeft);
                case 4 -> put(words, classes, step.made, a - b, ofLeft);
                case 5 -> put(words, classes, step.made, a * b, ofLeft);
                case 6 -> {
                    put(words, classes, 0, 7 * a + 3, ofLeft);
                    for (int r = 1; ofLeft && r < clobbered; r++) {
                        words.put(r, 12345 + r);
                    }
                }
                case 7 -> put(words, classes, step.made, a, ofLeft);
                case 8 -> put(words, classes, step.made, a >> 32, ofLeft);
                case 9 -> at = a < b ? steps.indexOf(step.target) : at;
                case 10 -> at = steps.indexOf(step.target);
                case 11 -> {
                    outs++;
                    number = 31 * number + (int) a;
                }
                case 12 -> put(words, classes, step.made, slots.getOrDefault(step.number, 0L), ofLeft);
                case 13 -> slots.put(step.number, a);
                default -> throw new IllegalStateException();
            }
        }
        return new int[] {at < steps.size() - 1 ? 1 : 0, done, outs, number};
    }

    private int[] cells(Map<Integer, Character> classes, int x, boolean ofLeft) {
        if (!ofLeft) {
            return new int[] {1000 + x, 2000 + x};
        }
        int r = left.register.get(x);
        return classes.get(x) == D ? new int[] {2 * r, 2 * r + 1} : new int[] {classes.get(x) == B ? 100 + r : r, NONE};
    }

    private long get(Map<Integer, Integer> words, Map<Integer, Character> classes, int x, boolean ofLeft) {
        int[] cells = cells(classes, x, ofLeft);
        int low = words.getOrDefault(cells[0], 0);
        if (classes.get(x) != D) {
            return low;
        }
        return ((long) words.getOrDefault(cells[1], 0) << 32) + Integer.toUnsignedLong(low);
    }

    private void put(Map<Integer, Integer> words, Map<Integer, Character> classes, int x, long what, boolean ofLeft) {
        int[] cells = cells(classes, x, ofLeft);
        words.put(cells[0], (int) what);
        if (classes.get(x) == D) {
            words.put(cells[1], (int) (what >>> 32));
        }
    }

    // ---- PROVED, with all registers and VALUES at once ----

    boolean proved() {
        List<Step> steps = left.steps;
        Drawn g = new Drawn(steps, left.classes);
        List<Map<Integer, Set<Integer>>> known = new ArrayList<>();
        for (int i = 0; i < steps.size(); i++) {
            known.add(null);
        }
        Map<Integer, Set<Integer>> first = new TreeMap<>();
        for (int r = 0; r < 8; r++) {
            first.put(r, new TreeSet<>(left.classes.keySet()));
            first.put(100 + r, new TreeSet<>(left.classes.keySet()));
        }
        known.set(0, first);
        ArrayDeque<Integer> open = new ArrayDeque<>(List.of(0));
        while (!open.isEmpty()) {
            int i = open.poll();
            if (i == steps.size() - 1) {
                continue;
            }
            Map<Integer, Set<Integer>> after = behind(g, steps.get(i), known.get(i));
            for (int next : g.followers(i)) {
                Map<Integer, Set<Integer>> before = known.get(next);
                Map<Integer, Set<Integer>> both = new TreeMap<>();
                after.forEach((r, held) -> {
                    Set<Integer> meet = new TreeSet<>(held);
                    if (before != null) {
                        meet.retainAll(before.get(r));
                    }
                    both.put(r, meet);
                });
                if (!both.equals(before)) {
                    known.set(next, both);
                    open.add(next);
                }
            }
        }
        for (int i = 0; i < steps.size() - 1; i++) {
            for (int x : steps.get(i).reads) {
                for (int r : registers(left.classes.get(x), left.register.get(x))) {
                    if (known.get(i) != null && !known.get(i).get(r).contains(x)) {
                        return false;
                    }
                }
            }
        }
        return true;
    }

    private Map<Integer, Set<Integer>> behind(Drawn g, Step step, Map<Integer, Set<Integer>> known) {
        Map<Integer, Set<Integer>> after = new TreeMap<>();
        known.forEach((r, held) -> after.put(r, new TreeSet<>(held)));
        if (step.kind == 6) {
            after.values().forEach(held -> held.remove(0));
            for (int r = 0; r < clobbered; r++) {
                after.get(r).clear();
            }
            after.get(0).add(0);
        } else if (step.made != NONE) {
            after.values().forEach(held -> held.remove(step.made));
            List<Integer> to = new ArrayList<>(new TreeSet<>(registers(left.classes.get(step.made), left.register.get(step.made))));
            List<Integer> from = new ArrayList<>();
            if (g.isMove(step)) {
                from.addAll(new TreeSet<>(registers(left.classes.get(step.read(0)), left.register.get(step.read(0)))));
            }
            for (int half = 0; half < to.size(); half++) {
                Set<Integer> held = new TreeSet<>(from.isEmpty() ? Set.of() : known.get(from.get(half)));
                held.add(step.made);
                after.put(to.get(half), held);
            }
        }
        return after;
    }

    // ---- CHORDAL and the rest ----

    /** FEWEST, NONE if it is not CHORDAL. */
    int fewest() {
        Drawn g = drawn();
        Set<Integer> remaining = new TreeSet<>();
        for (int x : g.there) {
            if (x >= 8 && x < 32) {
                remaining.add(x);
            }
        }
        int most = 0;
        boolean again = true;
        while (again) {
            again = false;
            for (int x : new ArrayList<>(remaining)) {
                Set<Integer> near = new TreeSet<>(g.near(x));
                near.retainAll(remaining);
                boolean clique = true;
                for (int y : near) {
                    for (int z : near) {
                        clique &= y == z || g.near(y).contains(z);
                    }
                }
                if (clique) {
                    most = Math.max(most, near.size() + 1);
                    remaining.remove(x);
                    again = true;
                    break;
                }
            }
        }
        return remaining.isEmpty() ? most : NONE;
    }

    int clashes() {
        Drawn g = drawn();
        int many = 0;
        for (int x : painted.keySet()) {
            for (int y : painted.keySet()) {
                boolean alike = painted.get(x).equals(painted.get(y));
                many += x < y && alike && g.near(x + 8).contains(y + 8) ? 1 : 0;
            }
        }
        return many;
    }

    int heaviest() {
        Drawn g = drawn();
        int most = 0;
        for (Set<Integer> live : g.live) {
            int much = 0;
            for (int x : live) {
                much += classAtFirst(x) == A ? 1 : classAtFirst(x) == D ? 2 : 0;
            }
            most = Math.max(most, much);
        }
        return most;
    }

    /** The document's look(7): EDGES but those of two FIXED. */
    int edges() {
        Drawn g = drawn();
        int many = 0;
        for (int x : g.edges.keySet()) {
            for (int y : g.near(x)) {
                many += x > y && x >= 8 ? 1 : 0;
            }
        }
        return many;
    }

    /** All MOVES of what ALLOCATE left. */
    int moves() {
        return new Drawn(left.steps, left.classes).moves();
    }

    int movesInPlace() {
        int many = 0;
        Drawn g = new Drawn(left.steps, left.classes);
        for (Step step : left.steps) {
            if (g.isMove(step) && left.register.get(step.made).equals(left.register.get(step.read(0)))) {
                many++;
            }
        }
        return many;
    }

    Set<Integer> used() {
        Set<Integer> all = new TreeSet<>();
        for (Step step : left.steps) {
            List<Integer> xs = new ArrayList<>(step.reads);
            if (step.made != NONE) {
                xs.add(step.made);
            }
            for (int x : xs) {
                all.addAll(registers(left.classes.get(x), left.register.get(x)));
            }
        }
        return all;
    }
}
