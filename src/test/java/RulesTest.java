import java.lang.management.ManagementFactory;
import java.lang.reflect.Array;
import java.lang.reflect.Constructor;
import java.lang.reflect.Field;
import java.lang.reflect.Method;
import java.lang.reflect.Modifier;
import java.nio.file.Files;
import java.nio.file.Path;
import java.util.ArrayList;
import java.util.Arrays;
import java.util.IdentityHashMap;
import java.util.List;
import java.util.Map;
import java.util.Set;
import java.util.TreeSet;
import java.util.regex.Matcher;
import java.util.regex.Pattern;

/** What of LANGUAGE.md, of the face and of the room can be seen from outside. */
public final class RulesTest {
    private static int wrong = 0;

    public static void main(String[] args) throws Exception {
        face();
        members();
        source();
        room();
        System.out.println(wrong == 0 ? "all rules kept" : wrong + " rules broken");
        if (wrong != 0) {
            System.exit(1);
        }
    }

    private static void must(boolean holds, String what) {
        if (!holds) {
            wrong++;
            System.out.println(what);
        }
    }

    private static void face() {
        Set<String> due = new TreeSet<>(List.of("set(int,int)boolean", "feed(int,int,int,int,int)int", "end(int)boolean",
            "code()int", "fault(int)int", "input(int,boolean)int", "allocate()int", "step(int,boolean,int)int", "live(int,int)int",
            "value(int,int)int", "edge(int,int)int", "colour(int,int)int", "left(int)int", "run(int,int)int", "proved()int",
            "graph(int)int", "paint(int,int)boolean", "image(boolean)boolean", "look(int)int"));
        Set<String> got = new TreeSet<>();
        for (Method m : RegisterColours.class.getDeclaredMethods()) {
            if (Modifier.isPublic(m.getModifiers())) {
                StringBuilder name = new StringBuilder(m.getName()).append('(');
                for (Class<?> p : m.getParameterTypes()) {
                    name.append(name.charAt(name.length() - 1) == '(' ? "" : ",").append(p.getName());
                }
                got.add(name.append(')').append(m.getReturnType().getName()).toString());
            } else {
                must(Modifier.isPrivate(m.getModifiers()) || m.isSynthetic(), "neither public nor private: " + m);
            }
        }
        must(got.equals(due), "the face is " + got);
        for (Field f : RegisterColours.class.getDeclaredFields()) {
            must(Modifier.isPrivate(f.getModifiers()) || f.getName().equals("NONE"), "not private: " + f);
        }
        Constructor<?>[] all = RegisterColours.class.getDeclaredConstructors();
        must(all.length == 1 && Modifier.isPublic(all[0].getModifiers()), "constructors");
        must(Modifier.isFinal(RegisterColours.class.getModifiers()), "final");
    }

    private static void members() {
        Set<String> publicNames = new TreeSet<>();
        for (Method m : RegisterColours.class.getDeclaredMethods()) {
            if (Modifier.isPublic(m.getModifiers())) {
                publicNames.add(m.getName());
            }
        }
        List<Class<?>> classes = new ArrayList<>(Arrays.asList(RegisterColours.class.getDeclaredClasses()));
        must(classes.size() + 1 <= 12, "classes: " + (classes.size() + 1));
        for (Class<?> c : classes) {
            must(Modifier.isStatic(c.getModifiers()), "not static: " + c);
        }
        classes.add(RegisterColours.class);
        for (Class<?> c : classes) {
            int fields = 0;
            for (Field f : c.getDeclaredFields()) {
                fields += Modifier.isStatic(f.getModifiers()) ? 0 : 1;
                must(!Modifier.isStatic(f.getModifiers()) || Modifier.isFinal(f.getModifiers()), "static, not final: " + f);
            }
            must(fields <= 20, "fields of " + c + ": " + fields);
            for (Method m : c.getDeclaredMethods()) {
                must(m.getParameterCount() <= 7, "parameters of " + m);
                must(Modifier.isPublic(m.getModifiers()) || !publicNames.contains(m.getName()), "named as a public one: " + m);
            }
        }
    }

    private static void source() throws Exception {
        String text = Files.readString(Path.of("src/main/java/RegisterColours.java"));
        String code = text.replaceAll("(?s)/\\*.*?\\*/", "").replaceAll("//[^\n]*", "");
        Matcher imports = Pattern.compile("(?m)^import ([^;]+);").matcher(code);
        while (imports.find()) {
            must(imports.group(1).matches("java\\.util\\.(Arrays|ArrayList|List|Iterator)"), "import " + imports.group(1));
        }
        for (String word : List.of("throw", "throws", "try", "catch", "synchronized", "assert", "package", "protected",
                "System\\.(?!arraycopy)\\w+", "\\w+Exact", "hashCode", "volatile", "native", "Thread", "Runtime", "Random")) {
            must(!Pattern.compile("\\b" + word + "\\b").matcher(code).find(), "the word " + word);
        }
        String withoutCases = code.replaceAll("(?m)^\\s*(case\\b[^:>]*|default\\s*)->", "");
        must(!withoutCases.contains("->") && !code.contains("::"), "a lambda or a method reference");
        must(!Pattern.compile("Arrays\\.(?!(fill|copyOf|copyOfRange)\\b)").matcher(code).find(), "another function of Arrays");
        must(text.chars().allMatch(c -> c == 10 || c >= 32 && c < 127), "a sign that is not plain");
        methodLengths(code);
    }

    private static void methodLengths(String code) {
        String[] lines = code.split("\n");
        int from = -1;
        String closing = "";
        for (int i = 0; i < lines.length; i++) {
            Matcher begin = Pattern.compile("^( {4}| {8})(?! )[\\w\\[\\] ]+\\([^)]*\\) \\{$").matcher(lines[i]);
            if (from < 0 && begin.find()) {
                from = i;
                closing = begin.group(1) + "}";
            } else if (from >= 0 && lines[i].equals(closing)) {
                must(i - from < 60, "long: " + lines[from].trim());
                from = -1;
            }
        }
    }

    // ---- the room: 600,000 objects and 7.3 million fields and elements for all calls of one run ----

    private static final int CALLS = 512;
    private static final int MOST_OBJECTS = 600_000;
    private static final int MOST_ELEMENTS = 7_300_000;

    private static void room() throws Exception {
        RegisterColours x = new RegisterColours();
        useAll(x);
        long[] used = count(x);
        // A run may make an object at every fourth call, and each may be told and asked all.
        long objects = CALLS / 4 * used[0];
        long elements = CALLS / 4 * used[1];
        must(objects < MOST_OBJECTS && elements < MOST_ELEMENTS, "used objects: " + used[0] + " objects, " + used[1] + " elements each");
        com.sun.management.ThreadMXBean bean = (com.sun.management.ThreadMXBean) ManagementFactory.getThreadMXBean();
        int[][] fives = Lot.fives(TEXT).toArray(new int[0][]);
        for (int i = 0; i < 50; i++) {
            useAgain(x, fives);
        }
        long before = bean.getCurrentThreadAllocatedBytes();
        for (int i = 0; i < CALLS; i++) {
            useAgain(x, fives);
        }
        // What calls make is thrown away by this machine, but not in the room; an element has a byte at least.
        long made = bean.getCurrentThreadAllocatedBytes() - before;
        must(made < MOST_ELEMENTS, CALLS + " times all calls made " + made + " bytes");
    }

    private static final String TEXT = "v0=in;v1=in;v2=in;w0=in;w1=w0;d0=v0*v1;v3=call v2;if v0<v1 goto 3;v4=low d0;v5=v4+v3;out v5;out w1;out v1;out v0;";

    private static void useAll(RegisterColours x) {
        x.set(0, 2);
        useAgain(x, Lot.fives(TEXT).toArray(new int[0][]));
    }

    private static void useAgain(RegisterColours x, int[][] fives) {
        for (int[] f : fives) {
            x.feed(f[0], f[1], f[2], f[3], f[4]);
        }
        x.code();
        x.allocate();
        x.image(true);
        x.image(false);
        for (int i = -1; i < 50; i++) {
            x.step(i, true, 6);
            x.step(i, false, 5);
            x.live(i, 8);
            x.value(i, 4);
            x.edge(i, 8);
            x.colour(i, 0);
            x.left(i);
            x.run(i, 3);
            x.graph(i);
            x.look(i);
        }
        x.proved();
        x.paint(0, 0);
        x.input(1, true);
        x.fault(0);
    }

    private static long[] count(Object root) throws Exception {
        Map<Object, Boolean> seen = new IdentityHashMap<>();
        List<Object> open = new ArrayList<>(List.of(root));
        long[] sum = new long[2];
        while (!open.isEmpty()) {
            Object at = open.remove(open.size() - 1);
            if (seen.put(at, true) != null) {
                continue;
            }
            sum[0]++;
            if (at.getClass().isArray()) {
                sum[1] += Array.getLength(at);
                continue;
            }
            for (Field f : at.getClass().getDeclaredFields()) {
                if (!Modifier.isStatic(f.getModifiers())) {
                    sum[1]++;
                    f.setAccessible(true);
                    Object held = f.getType().isPrimitive() ? null : f.get(at);
                    if (held != null) {
                        open.add(held);
                    }
                }
            }
        }
        return sum;
    }
}
