import java.util.ArrayList;
import java.util.List;
import java.util.Random;

/**
 * Calls by chance (the same ones each time) with numbers of all sizes: none throws, behind the 512th call neither; an object
 * answers the same whatever is asked of another one.
 */
public final class WildTest {
    private static final int RUNS = 400;
    private static final int MANY_CALLS = 4000;
    private static final int[] EDGES = {Integer.MIN_VALUE, Integer.MIN_VALUE + 1, -1000, -14, -10, -9, -2, -1, 0, 1, 2, 3, 4, 5, 6, 7,
            8, 9, 10, 15, 16, 17, 29, 30, 49, 50, 51, 64, 65, 90, 91, 99, 100, 298, 299, 300, 301, 998, 999, 1000, 9999, 10000,
            999999, 1000000, Integer.MAX_VALUE - 1, Integer.MAX_VALUE};
    private static final String SIGNS = "aAbBzZ  0019-.~";
    private static final List<String> MAKES = List.of("put", "mark", "see", "head", "name", "unname", "build");

    private final Random chance;
    private final int wildness;

    private WildTest(long seed) {
        chance = new Random(seed);
        wildness = chance.nextInt(100);
    }

    public static void main(String[] args) {
        for (long seed = 0; seed < RUNS; seed++) {
            int calls = seed % 8 == 0 ? MANY_CALLS : Calls.MOST_CALLS;
            List<Call> run = new WildTest(seed).run(calls);
            List<Integer> alone = answers(run, new ArrayList<>());
            List<Integer> beside = answers(run, new WildTest(seed + RUNS).run(calls));
            Calls.check(alone != null && alone.equals(beside), "run " + seed + " answers otherwise beside another object");
        }
        Calls.end();
    }

    /** What the calls of a run answer, each made between calls of another run on another object; null, if one throws. */
    private static List<Integer> answers(List<Call> run, List<Call> other) {
        BackIndex object = new BackIndex();
        BackIndex otherObject = new BackIndex();
        List<Integer> answers = new ArrayList<>();
        for (int k = 0; k < run.size(); k++) {
            try {
                answers.add(run.get(k).on(object));
                if (k < other.size()) {
                    other.get(k).on(otherObject);
                }
            } catch (IllegalStateException thrown) {
                Calls.check(false, "call " + k + " threw: " + thrown.getMessage() + ": " + thrown.getCause().getCause());
                return null;
            }
        }
        return answers;
    }

    private List<Call> run(int calls) {
        List<Call> run = new ArrayList<>();
        while (run.size() < calls) {
            List<String> names = chance.nextInt(4) == 0 ? MAKES : Call.names();
            run.add(Call.of(text(names.get(chance.nextInt(names.size())))));
        }
        return run;
    }

    private String text(String name) {
        StringBuilder text = new StringBuilder(name).append('(');
        for (Class<?> type : Call.types(name)) {
            text.append(text.charAt(text.length() - 1) == '(' ? "" : ", ");
            if (type == boolean.class) {
                text.append(chance.nextBoolean());
            } else {
                text.append(type == long.class ? bytes() : number());
            }
        }
        return text.append(')').toString();
    }

    private int number() {
        if (chance.nextInt(100) < wildness) {
            return EDGES[chance.nextInt(EDGES.length)];
        }
        return chance.nextInt(4) == 0 ? BackIndex.NONE : chance.nextInt(1 + chance.nextInt(30));
    }

    private long bytes() {
        if (chance.nextInt(20) == 0) {
            return chance.nextLong();
        }
        long bytes = 0;
        for (int k = 0; k < 8; k++) {
            bytes = bytes << 8 | SIGNS.charAt(chance.nextInt(SIGNS.length()));
        }
        return bytes;
    }
}
