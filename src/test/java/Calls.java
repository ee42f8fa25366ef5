import java.lang.reflect.InvocationTargetException;
import java.lang.reflect.Method;
import java.util.ArrayList;
import java.util.HashMap;
import java.util.List;
import java.util.Map;
import java.util.Set;

/**
 * A run of calls on one new object, written as lines; lines whose answer is not the one due are printed.
 *
 * <pre>
 * put(0, 1) = 1             a call and its answer: a number, or the name of a constant or fault
 * REFUSED put(9, 1) = FULL  likewise, and the call may change nothing (but fault(), if it names faults)
 * FILL 40                   so many words (0, 1, 2 ..) are put behind all
 * NAME ab c                 THE NAME becomes "ab c"
 * HEAD ab c = 0             likewise, then head()
 * SORT 1 ab c               likewise, then sortAs(1), which must answer 1
 * PASS the = 1              likewise, then pass()
 * WORDS = 3 1 2             all words
 * GAPS = 0 x 3              the gaps of all marks, from mark 0 on; x is gone
 * SIGNS 1 = ab c            the signs by which head 1 is sorted
 * LABEL 3 = xii             the label of a page, sign by sign
 * PATHS = 0 0.1 2           the paths of all entries
 * PLACES 0 = M1 R2-4 P5 N5/7    the places of an entry: MAIN, run, PICTURE, NOTE
 * SEES 0 = see1/good also3/lost the sees of an entry
 * UNMATCHED = 3 4           all unmatched marks
 * </pre>
 */
final class Calls {
    static final int MOST_CALLS = 512;
    private static final Set<String> NAMES_FAULTS = Set.of("move", "show", "taken", "match");
    private static final Map<String, Integer> ANSWERS = Map.of("UNKNOWN", -1, "OUTSIDE", -2, "STATE", -3, "FULL", -4,
            "NONE", -9, "NULL", -11, "CAST", -12, "INDEX", -13, "SIZE", -14);
    private static final Map<String, Method> METHODS = new HashMap<>();
    private static int wrong = 0;
    private static int checked = 0;

    static {
        for (Method method : BackIndex.class.getMethods()) {
            if (method.getDeclaringClass() == BackIndex.class) {
                METHODS.put(method.getName(), method);
            }
        }
    }

    private final String title;
    private final List<String> made = new ArrayList<>();
    private final BackIndex object = new BackIndex();

    private Calls(String title) {
        this.title = title;
    }

    static void run(String title, String... lines) {
        Calls calls = new Calls(title);
        for (String line : lines) {
            calls.line(line);
        }
        check(calls.made.size() <= MOST_CALLS, title + ": " + calls.made.size() + " calls are more than are promised");
    }

    static void check(boolean isRight, String told) {
        checked++;
        if (!isRight) {
            wrong++;
            System.out.println(told);
        }
    }

    /** Ends the test: with exit code 1 if anything was wrong. */
    static void end() {
        System.out.println(checked + " checks, " + wrong + " wrong");
        if (wrong != 0 || checked == 0) {
            System.exit(1);
        }
    }

    private void line(String line) {
        int split = line.lastIndexOf(" = ");
        String due = split < 0 ? "" : line.substring(split + 3);
        String left = split < 0 ? line : line.substring(0, split);
        String word = left.contains(" ") ? left.substring(0, left.indexOf(' ')) : left;
        String rest = left.contains(" ") ? left.substring(left.indexOf(' ') + 1) : "";
        switch (word) {
            case "REFUSED" -> refused(rest, due);
            case "FILL" -> fill(Integer.parseInt(rest));
            case "NAME" -> name(rest);
            case "HEAD" -> { name(rest); answer("head()", due); }
            case "PASS" -> { name(rest); answer("pass()", due); }
            case "SORT" -> {
                name(rest.substring(rest.indexOf(' ') + 1));
                answer("sortAs(" + rest.substring(0, rest.indexOf(' ')) + ")", "1");
            }
            case "WORDS" -> same(line, due, words());
            case "GAPS" -> same(line, due, gaps());
            case "SIGNS" -> same(line, due, signs(Integer.parseInt(rest)));
            case "LABEL" -> same(line, due, label(Integer.parseInt(rest)));
            case "PATHS" -> same(line, due, paths());
            case "PLACES" -> same(line, due, places(Integer.parseInt(rest)));
            case "SEES" -> same(line, due, sees(Integer.parseInt(rest)));
            case "UNMATCHED" -> same(line, due, unmatched());
            default -> answer(left, due);
        }
    }

    private void same(String line, String due, String got) {
        check(due.trim().equals(got.trim()), title + ": " + line + ": got " + got);
    }

    private void answer(String call, String due) {
        int got = call(call);
        int want = ANSWERS.containsKey(due) ? ANSWERS.get(due) : Integer.parseInt(due);
        check(got == want, title + ": " + call + " answered " + got + ", due is " + due);
    }

    private int call(String call) {
        made.add(call);
        return call(object, call);
    }

    private static int call(BackIndex object, String call) {
        int bracket = call.indexOf('(');
        Method method = METHODS.get(call.substring(0, bracket));
        String inner = call.substring(bracket + 1, call.lastIndexOf(')')).trim();
        String[] texts = inner.isEmpty() ? new String[0] : inner.split(" *, *");
        Class<?>[] types = method.getParameterTypes();
        Object[] values = new Object[types.length];
        if (texts.length != types.length) {
            throw new IllegalArgumentException(call);
        }
        for (int k = 0; k < types.length; k++) {
            values[k] = value(types[k], texts[k]);
        }
        try {
            return (Integer) method.invoke(object, values);
        } catch (IllegalAccessException | InvocationTargetException e) {
            throw new IllegalStateException(call, e);
        }
    }

    private static Object value(Class<?> type, String text) {
        if (type == boolean.class) {
            return Boolean.valueOf(text);
        }
        if (type == long.class) {
            return Long.valueOf(text);
        }
        return switch (text) {
            case "NONE" -> -9;
            case "LEAST" -> Integer.MIN_VALUE;
            case "MOST" -> Integer.MAX_VALUE;
            default -> Integer.valueOf(text);
        };
    }

    /** The call is made on one of two objects that are alike otherwise, and both are looked at then. */
    private void refused(String call, String due) {
        BackIndex without = again();
        BackIndex with = again();
        call(with, call);
        String method = call.substring(0, call.indexOf('('));
        check(NAMES_FAULTS.contains(method) || without.fault() == with.fault(), title + ": " + call + " changed fault()");
        List<Integer> before = look(without);
        List<Integer> after = look(with);
        check(before.equals(after), title + ": " + call + " changed something: " + before + " became " + after);
        answer(call, due);
    }

    private BackIndex again() {
        BackIndex fresh = new BackIndex();
        for (String each : made) {
            call(fresh, each);
        }
        return fresh;
    }

    /** All that can be seen of an object; it is of no use behind this. */
    static List<Integer> look(BackIndex x) {
        List<Integer> seen = new ArrayList<>();
        for (int what = 0; what <= 8; what++) {
            seen.add(x.told(what));
        }
        seen.add(x.trace());
        lookAtBook(x, seen);
        lookAtMarks(x, seen);
        lookAtIndex(x, seen);
        for (int kind = 0; kind <= 2; kind++) {
            seen.add(x.taken(kind));
        }
        lookAtName(x, seen);
        seen.add(x.flow(10));
        seen.add(x.undo());
        seen.add(x.undo());
        lookAtBook(x, seen);
        lookAtMarks(x, seen);
        return seen;
    }

    private static void lookAtBook(BackIndex x, List<Integer> seen) {
        for (int i = 0; i < x.told(0); i++) {
            seen.add(x.word(i));
        }
        for (int page = 0; page < x.told(1); page++) {
            for (int i = 0; i < x.label(page); i++) {
                seen.add(x.labelSign(page, i));
            }
        }
    }

    private static void lookAtMarks(BackIndex x, List<Integer> seen) {
        for (int head = 0; head < 30; head++) {
            for (int i = 0; i < x.about(head, 0); i++) {
                seen.add(x.sign(head, 0, i));
            }
            for (int i = 0; i < x.about(head, 1); i++) {
                seen.add(x.sign(head, 1, i));
            }
            seen.add(x.compare(head, 0, 0));
        }
        for (int mark = 0; mark < 50; mark++) {
            for (int what = 0; what <= 6; what++) {
                seen.add(x.marked(mark, what));
            }
        }
    }

    private static void lookAtIndex(BackIndex x, List<Integer> seen) {
        for (int e = 0; e < x.told(5); e++) {
            for (int what = 0; what <= 6; what++) {
                seen.add(x.entry(e, what));
            }
            for (int i = 0; i < x.entry(e, 3); i++) {
                for (int what = 0; what <= 3; what++) {
                    seen.add(x.place(e, i, what));
                }
            }
            for (int i = 0; i < x.entry(e, 5); i++) {
                for (int what = 0; what <= 2; what++) {
                    seen.add(x.sees(e, i, what));
                }
            }
        }
        for (int i = 0; i < x.unmatched(); i++) {
            seen.add(x.unmatchedAt(i));
        }
        seen.add(x.changed());
    }

    /** THE NAME can only be seen as a head's, so it becomes one's. */
    private static void lookAtName(BackIndex x, List<Integer> seen) {
        for (int head = 0; head < 30; head++) {
            if (x.about(head, 0) > 0) {
                seen.add(x.sortAs(head));
                for (int i = 0; i < x.about(head, 1); i++) {
                    seen.add(x.sign(head, 1, i));
                }
                x.undo();
                return;
            }
        }
    }

    private void fill(int count) {
        int from = call("told(0)");
        for (int k = 0; k < count; k++) {
            call("put(" + (from + k) + ", " + k + ")");
        }
    }

    private void name(String text) {
        call("unname()");
        for (int from = 0; from < text.length(); from += 8) {
            String piece = text.substring(from, Math.min(from + 8, text.length()));
            call("name(" + packed(piece) + ", " + piece.length() + ")");
        }
    }

    static long packed(String text) {
        long w = 0;
        for (char sign : text.toCharArray()) {
            w = w << 8 | sign;
        }
        return w;
    }

    private String words() {
        StringBuilder text = new StringBuilder();
        int count = call("told(0)");
        for (int i = 0; i < count; i++) {
            text.append(call("word(" + i + ")")).append(' ');
        }
        return text.toString();
    }

    private String gaps() {
        StringBuilder text = new StringBuilder();
        int left = call("told(4)");
        for (int m = 0; m < 50 && left > 0; m++) {
            int gap = call("marked(" + m + ", 1)");
            text.append(gap < 0 ? "x" : gap).append(' ');
            left -= gap < 0 ? 0 : 1;
        }
        return text.toString();
    }

    private String signs(int head) {
        StringBuilder text = new StringBuilder();
        int count = call("about(" + head + ", 1)");
        for (int i = 0; i < count; i++) {
            text.append((char) call("sign(" + head + ", 1, " + i + ")"));
        }
        return text.toString();
    }

    private String label(int page) {
        StringBuilder text = new StringBuilder();
        int count = call("label(" + page + ")");
        for (int i = 0; i < count; i++) {
            text.append((char) call("labelSign(" + page + ", " + i + ")"));
        }
        check(call("labelSign(" + page + ", " + count + ")") == -9, title + ": page " + page + " has more signs than told");
        return text.toString();
    }

    private String paths() {
        StringBuilder text = new StringBuilder();
        int count = call("told(5)");
        for (int e = 0; e < count; e++) {
            int heads = call("entry(" + e + ", 6)");
            for (int k = 0; k < heads; k++) {
                text.append(k == 0 ? "" : ".").append(call("entry(" + e + ", " + k + ")"));
            }
            text.append(' ');
        }
        return text.toString();
    }

    private String places(int e) {
        StringBuilder text = new StringBuilder();
        int count = call("entry(" + e + ", 3)");
        for (int i = 0; i < count; i++) {
            int[] part = new int[4];
            for (int what = 0; what < 4; what++) {
                part[what] = call("place(" + e + ", " + i + ", " + what + ")");
            }
            text.append("R??MNP".charAt(part[0])).append(part[1]);
            if (part[0] == 0 || part[2] != part[1]) {
                text.append('-').append(part[2]);
            }
            if (part[0] == 4 || part[3] != 0) {
                text.append('/').append(part[3]);
            }
            text.append(' ');
        }
        return text.toString();
    }

    private String sees(int e) {
        StringBuilder text = new StringBuilder();
        int count = call("entry(" + e + ", 5)");
        for (int i = 0; i < count; i++) {
            String at = "sees(" + e + ", " + i + ", ";
            text.append(call(at + "1)") == 1 ? "also" : "see").append(call(at + "0)")).append('/');
            text.append(new String[] {"good", "lost", "round"}[call(at + "2)")]).append(' ');
        }
        return text.toString();
    }

    private String unmatched() {
        StringBuilder text = new StringBuilder();
        int count = call("unmatched()");
        for (int i = 0; i < count; i++) {
            text.append(call("unmatchedAt(" + i + ")")).append(' ');
        }
        return text.toString();
    }
}
