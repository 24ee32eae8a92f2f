import java.lang.reflect.Method;
import java.lang.reflect.Modifier;
import java.util.ArrayList;
import java.util.Arrays;
import java.util.Comparator;
import java.util.List;
import java.util.Map;
import java.util.Random;
import java.util.TreeMap;

/** Runs of calls by chance, always the same ones, on the class and on Model: all answers must be alike. */
final class ModelTest {
    private static final int RUNS = 400, CALLS = 512;
    private static final Check check = new Check();
    private static final int[] WILD = {
        Integer.MIN_VALUE, Integer.MIN_VALUE + 1, -1000, -100, -4, -3, -2, -1, 0, 1, 2, 3, 4, 5, 6, 7, 8, 15, 16, 17,
        20, 21, 31, 32, 63, 64, 80, 81, 99, 100, 999, 1000, 9999, 10000, 1 << 30, Integer.MAX_VALUE,
    };
    private final Random chance;
    private final CutDistances asked = new CutDistances();
    private final Model model = new Model();
    private final List<String> calls = new ArrayList<>();
    private static final Map<String, Integer> GOOD = new TreeMap<>();

    private ModelTest(int seed) {
        chance = new Random(seed);
    }

    public static void main(String[] args) throws ReflectiveOperationException {
        List<Method> methods = new ArrayList<>();
        for (Method m : CutDistances.class.getDeclaredMethods()) {
            if (Modifier.isPublic(m.getModifiers())) {
                methods.add(m);
            }
        }
        methods.sort(Comparator.comparing(Method::getName));
        for (int seed = 1; seed <= RUNS; seed++) {
            new ModelTest(seed).run(seed, methods);
        }
        for (Method m : methods) {
            check.holds(m.getName() + " was done truly", GOOD.getOrDefault(m.getName(), 0) > RUNS);
        }
        check.end();
    }

    private void run(int seed, List<Method> methods) throws ReflectiveOperationException {
        while (calls.size() < CALLS) {
            int before = calls.size();
            boolean alike;
            switch (chance.nextInt(12)) {
                case 0: alike = readSomething(); break;
                case 1: alike = rowOfSomething(); break;
                default: alike = call(methods.get(chance.nextInt(methods.size()))); break;
            }
            if (!alike) {
                System.out.println("run " + seed + ", the last of these calls: " + calls);
                return;
            }
            check.holds("a call was made", calls.size() > before);
        }
    }

    private boolean call(Method m) throws ReflectiveOperationException {
        // points() and wipe() would else leave little to look at
        if (Arrays.asList("points", "wipe", "undo", "lose").contains(m.getName()) && chance.nextInt(4) > 0) {
            m = CutDistances.class.getMethod("cut", int.class, int.class);
        }
        Object[] arguments = new Object[m.getParameterCount()];
        for (int k = 0; k < arguments.length; k++) {
            arguments[k] = chance.nextInt(25) == 0 ? WILD[chance.nextInt(WILD.length)] : likely(m.getName(), k);
        }
        return alike(m.getName(), arguments);
    }

    /** Behind the last call that an object is used for nothing is asked any more. */
    private boolean alike(String name, Object... arguments) throws ReflectiveOperationException {
        if (calls.size() == CALLS) {
            return true;
        }
        Class<?>[] types = new Class<?>[arguments.length];
        Arrays.fill(types, int.class);
        String told = name + Arrays.toString(arguments);
        calls.add(told);
        long want = ((Number) Model.class.getMethod(name, types).invoke(model, arguments)).longValue();
        long got = ((Number) CutDistances.class.getMethod(name, types).invoke(asked, arguments)).longValue();
        if (want >= 0) {
            GOOD.merge(name, 1, Integer::sum);
        }
        check.due(told, got, want);
        return got == want;
    }

    private int likely(String name, int k) {
        int n = model.count(0);
        switch (name + k) {
            case "points0": return 2 + chance.nextInt(5);
            case "put2": return chance.nextInt(chance.nextBoolean() ? 10 : 1000);
            case "put0": case "put1": case "at0": case "at1": case "place0": case "wall2": return chance.nextInt(n);
            case "cut0": case "switched1": return 1 + chance.nextInt((1 << (n - 1)) - 1);
            case "cut1": return chance.nextInt(9) - 3;
            case "place1": case "place2": return chance.nextInt(chance.nextBoolean() ? 4 : 100);
            case "stretch0": return chance.nextInt(4);
            case "triangles0": case "rounds0": return chance.nextInt(2);
            case "walls0": case "wall0": case "holdWall1": return 1 + chance.nextInt(3);
            case "wall1": case "holdWall2":
                return chance.nextInt(1 + (int) (1.2 * model.walls(1 + chance.nextInt(3), 0)));
            case "walls1": case "gauge0": case "count0": return chance.nextInt(5);
            case "roots1": case "taken1": return chance.nextInt(3);
            case "root1": return chance.nextInt(12);
            case "sum0": return 1 + chance.nextInt(chance.nextBoolean() ? 9999 : 100);
            case "sum1": return chance.nextInt((1 << (n - 1)) + 1) - 1;
            case "gauge1": return chance.nextInt(1 << n);
            case "feed0": return chance.nextInt();
            case "feed1": return 1 + chance.nextInt(4);
            case "spell0": return chance.nextInt(40) - 1;
            case "row1": return chance.nextInt(21);
            case "set1": case "number1": return chance.nextInt(10);
            case "set2": return chance.nextInt(7) - 3;
            default: return chance.nextInt(6);
        }
    }

    /** A TEXT, or one with a byte that is otherwise, left out or put in. */
    private boolean readSomething() throws ReflectiveOperationException {
        int n = 2 + chance.nextInt(5);
        StringBuilder text = new StringBuilder().append(n);
        int most = chance.nextBoolean() ? 4 : 1000;
        for (int i = 1; i < n; i++) {
            for (int j = 0; j < i; j++) {
                text.append(j == 0 ? ";" : ",").append(chance.nextInt(8) == 0 ? "0" : "").append(chance.nextInt(most));
            }
        }
        int spot = chance.nextInt(text.length());
        String bytes = ";,0123456789 x" + (char) 200;
        String other = "" + bytes.charAt(chance.nextInt(bytes.length()));
        switch (chance.nextInt(6)) {
            case 0: text.replace(spot, spot + 1, other); break;
            case 1: text.deleteCharAt(spot); break;
            case 2: text.insert(spot, other); break;
            case 3: text.setLength(spot); break;
            case 4: text.append(other); break;
            default: break;
        }
        boolean alike = alike("wipe");
        for (int k = 0; k < text.length() && alike; k += 4) {
            int v = 0;
            int size = Math.min(4, text.length() - k);
            for (int b = 0; b < size; b++) {
                v = v << 8 | text.charAt(k + b);
            }
            alike = alike("feed", v, size);
        }
        return alike && alike("read") && alike("count", 2) && alike("spell", -1);
    }

    /** A ROW that tells the DISTANCES, or a WALL, and is mostly right. */
    private boolean rowOfSomething() throws ReflectiveOperationException {
        int h = chance.nextInt(6);
        boolean wall = chance.nextBoolean();
        int n = model.count(0);
        int size = wall ? n : model.count(1);
        int[] numbers = new int[size];
        if (wall) {
            int k = chance.nextInt(model.walls(3, 0));
            for (int i = 0; i < n; i++) {
                numbers[i] = model.wall(3, k, i) - 3;
            }
        } else {
            for (int p = 0, i = 0; i < n; i++) {
                for (int j = i + 1; j < n; j++) {
                    numbers[p++] = model.at(i, j);
                }
            }
        }
        int length = chance.nextInt(4) == 0 ? chance.nextInt(21) : size;
        boolean alike = alike("row", h, length);
        for (int i = 0; i < Math.min(size, length) && alike; i++) {
            alike = alike("set", h, i, chance.nextInt(30) == 0 ? 4 : numbers[i]);
        }
        if (!wall) {
            return alike && alike("judge", h);
        }
        int into = chance.nextInt(6);
        return alike && alike("wallOf", into, h) && alike("roots", into, chance.nextInt(3)) && alike("value", into)
            && alike("root", into, chance.nextInt(12)) && alike("switched", into, likely("switched", 1))
            && alike("number", into, chance.nextInt(n));
    }
}
