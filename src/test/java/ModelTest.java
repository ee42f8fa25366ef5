import java.lang.reflect.Method;
import java.util.ArrayList;
import java.util.Arrays;
import java.util.HashMap;
import java.util.List;
import java.util.Map;
import java.util.Random;

/** Runs of calls by chance (the same ones each time) on the class and on the model: every answer must be alike. */
public final class ModelTest {
    private static final int RUNS = 1500;
    private static final int[] EDGES = {-9, -1, 0, 1, 2, 8, 49, 50, 99, 100, 300, 999999, Integer.MAX_VALUE, Integer.MIN_VALUE};
    private static final String[] NAMES = {"a", "b", "A", "an", "the", "the a", "The b", "an a", "a b", "ab", "a 1", "a 01", "a1 2",
            "a12", "a200", "-", "a-b", "9", "10", "010", "zz top", "Zz", "x", "x y z", "abcdefghijklmnop", " a", "a ", "a  b", "~"};

    /** How often a call is made, of the calls that a run is mostly made of. */
    private static final Map<String, Integer> WEIGHTS = new HashMap<>();

    static {
        WEIGHTS.putAll(Map.of("put", 30, "take", 4, "move", 6, "head", 14, "mark", 40, "see", 16, "drop", 4, "build", 12));
        WEIGHTS.putAll(Map.of("entry", 20, "place", 40, "sees", 20, "changed", 8, "marked", 14, "sortAs", 4, "undo", 3));
        WEIGHTS.putAll(Map.of("compare", 10, "part", 4, "labelSign", 10, "name", 3, "unname", 2, "led", 4, "find", 4, "first", 4));
    }

    private final Random chance;
    private final int spread;
    private final BackIndex object = new BackIndex();
    private final Model model = new Model();
    private final List<String> made = new ArrayList<>();

    private ModelTest(long seed) {
        chance = new Random(seed);
        spread = new int[] {3, 6, 12, 30}[(int) (seed % 4)];
    }

    public static void main(String[] args) throws ReflectiveOperationException {
        List<Method[]> methods = methods();
        for (long seed = 0; seed < RUNS; seed++) {
            new ModelTest(seed).run(methods, seed);
        }
        Calls.end();
    }

    private static List<Method[]> methods() throws ReflectiveOperationException {
        Method[] all = BackIndex.class.getMethods();
        Arrays.sort(all, (x, y) -> x.getName().compareTo(y.getName()));
        List<Method[]> methods = new ArrayList<>();
        for (Method method : all) {
            if (method.getDeclaringClass() != BackIndex.class) {
                continue;
            }
            Method other = Model.class.getDeclaredMethod(method.getName(), method.getParameterTypes());
            for (int k = 0; k < WEIGHTS.getOrDefault(method.getName(), 2); k++) {
                methods.add(new Method[] {method, other});
            }
        }
        return methods;
    }

    private void run(List<Method[]> methods, long seed) throws ReflectiveOperationException {
        while (made.size() < Calls.MOST_CALLS) {
            Method[] pair = methods.get(chance.nextInt(methods.size()));
            String called = pair[0].getName();
            boolean isByName = List.of("head", "rename", "sortAs", "pass", "first").contains(called);
            if (isByName && chance.nextInt(8) != 0 && !rename(methods, seed)) {
                return;
            }
            if (!same(pair, arguments(pair[0]), seed)) {
                return;
            }
        }
    }

    /** THE NAME becomes another one, so that what is done with it is not refused for the most part. */
    private boolean rename(List<Method[]> methods, long seed) throws ReflectiveOperationException {
        String text = chance.nextInt(20) == 0 ? "" : NAMES[chance.nextInt(NAMES.length)];
        if (!same(named(methods, "unname"), new Object[0], seed)) {
            return false;
        }
        for (int from = 0; from < text.length(); from += 8) {
            String piece = text.substring(from, Math.min(from + 8, text.length()));
            if (!same(named(methods, "name"), new Object[] {Calls.packed(piece), piece.length()}, seed)) {
                return false;
            }
        }
        return true;
    }

    private static Method[] named(List<Method[]> methods, String name) {
        return methods.stream().filter(pair -> pair[0].getName().equals(name)).findFirst().orElseThrow();
    }

    private boolean same(Method[] pair, Object[] values, long seed) throws ReflectiveOperationException {
        String call = pair[0].getName() + Arrays.toString(values).replace('[', '(').replace(']', ')');
        made.add(call);
        Object got = pair[0].invoke(object, values);
        Object want = pair[1].invoke(model, values);
        Calls.check(got.equals(want), "run " + seed + ", call " + made.size() + ": " + call + " answered " + got + ", due is " + want);
        return got.equals(want);
    }

    private Object[] arguments(Method method) {
        Class<?>[] types = method.getParameterTypes();
        Object[] values = new Object[types.length];
        for (int k = 0; k < types.length; k++) {
            if (types[k] == boolean.class) {
                values[k] = chance.nextBoolean();
            } else if (types[k] == long.class) {
                values[k] = Calls.packed(NAMES[chance.nextInt(NAMES.length)]);
            } else {
                values[k] = number(method.getName(), k);
            }
        }
        return values;
    }

    private int number(String method, int k) {
        if (chance.nextInt(40) == 0) {
            return EDGES[chance.nextInt(EDGES.length)];
        }
        switch (method + k) {
            case "put0", "move0", "mark0", "see0", "take0", "move2", "word0":
                return chance.nextInt(model.told(0) + 1);
            case "mark1", "mark5":
                return chance.nextInt(6);
            case "mark3":
                return chance.nextInt(2) == 0 ? -9 : chance.nextInt(spread);
            case "mark4", "find1", "find2":
                return chance.nextInt(4) != 0 ? -9 : chance.nextInt(spread);
            case "build0", "build2", "compare2", "about1", "sign1":
                return chance.nextInt(2);
            case "build1":
                return chance.nextInt(2) * chance.nextInt(4);
            case "flow0":
                return 1 + chance.nextInt(5);
            case "part0", "label0", "labelSign0":
                return chance.nextInt(model.told(1) + 2);
            case "part1", "labelled0", "sees2", "led0", "taken0":
                return chance.nextInt(3);
            case "part2":
                return 1 + chance.nextInt(chance.nextBoolean() ? 20 : 999);
            case "part3", "labelled2":
                return 64 + chance.nextInt(4);
            case "entry0", "place0", "sees0":
                return chance.nextInt(model.told(5) + 1);
            case "entry1", "marked1":
                return chance.nextInt(7);
            case "place1", "sees1", "place2", "tray0":
                return chance.nextInt(4);
            case "drop0", "marked0", "tell0", "show0":
                return chance.nextInt(model.told(4) + 3);
            case "shorten0", "unfold0":
                return 1 + chance.nextInt(chance.nextBoolean() ? 200 : 999999);
            case "shorten1", "unfold1":
                return chance.nextInt(chance.nextBoolean() ? 300 : 999999);
            case "shorten2", "unfold2":
                return chance.nextInt(chance.nextBoolean() ? 3 : 7);
            case "name1":
                return 1 + chance.nextInt(8);
            default:
                return chance.nextInt(spread);
        }
    }
}
