import java.util.ArrayList;
import java.util.HashSet;
import java.util.List;
import java.util.Map;
import java.util.Set;

/**
 * A run of calls on one new object, written as lines; lines whose answer is not the one due are printed.
 *
 * <pre>
 * put(0, 1) = 1             a call and its answer: a number, or the name of a constant or fault
 * REFUSED put(9, 1) = FULL  likewise, and the call may change nothing (but fault(), if it names faults, to what is due)
 * COUNT 50 see(0, 1, 2, true) = 0   the call so many times: its answers go up by one, from this one on
 * HEADS 30                  so many heads are made: a, b, c ..
 * FILL 40                   so many words (0, 1, 2 ..) are put behind all
 * NAME ab c                 THE NAME becomes "ab c"
 * HEAD ab c = 0             likewise, then head()
 * SORT 1 ab c               likewise, then sortAs(1), which must answer 1
 * PASS the = 1              likewise, then pass()
 * WORDS = 3 1 2             all words
 * GAPS = 0 x 3              the gaps of all marks, from mark 0 on; x is gone
 * SIGNS 1 = ab c            the signs by which head 1 is sorted
 * LABEL 3 = xii             the label of a page, sign by sign
 * PATHS = 0 0.1 2           the paths of all entries
 * PLACES 0 = M1 R2-4 P5 N5/7    the places of an entry: MAIN, run, PICTURE, NOTE
 * SEES 0 = see1/good also3/lost the sees of an entry
 * UNMATCHED = 3 4           all unmatched marks
 * </pre>
 */
final class Calls {
    static final int MOST_CALLS = 512;
    private static final Set<String> NAMES_FAULTS = Set.of("move", "show", "taken", "match");
    private static final Map<String, Integer> ANSWERS = Map.of("UNKNOWN", -1, "OUTSIDE", -2, "STATE", -3, "FULL", -4,
            "NONE", -9, "NULL", -11, "CAST", -12, "INDEX", -13, "SIZE", -14);
    /** Calls that change nothing but fault(), and what it tells behind them. */
    private static final String[] AHEAD = {"move(0, 0, 0)", "move(0, 301, 0)", "move(0, -1, 0)"};
    private static final int[] AHEAD_FAULTS = {0, 3, 4};
    private static final Set<String> refusals = new HashSet<>();
    private static int wrong = 0;
    private static int checked = 0;

    private final String title;
    private final List<Call> made = new ArrayList<>();
    private final BackIndex object = new BackIndex();

    private Calls(String title) {
        this.title = title;
    }

    static void run(String title, String... lines) {
        Calls calls = new Calls(title);
        for (String line : lines) {
            calls.line(line);
        }
        check(calls.made.size() <= MOST_CALLS, title + ": " + calls.made.size() + " calls are more than are promised");
    }

    static void check(boolean isRight, String told) {
        checked++;
        if (!isRight) {
            wrong++;
            System.out.println(told);
        }
    }

    /** Whether a refused call (by its name) with such an answer has been looked at. */
    static boolean hasRefused(String name, String due) {
        return refusals.contains(name + " " + due);
    }

    /** Ends the test: with exit code 1 if anything was wrong. */
    static void end() {
        System.out.println(checked + " checks, " + wrong + " wrong");
        if (wrong != 0 || checked == 0) {
            System.exit(1);
        }
    }

    private void line(String line) {
        int split = line.lastIndexOf(" = ");
        String due = split < 0 ? "" : line.substring(split + 3);
        String left = split < 0 ? line : line.substring(0, split);
        String word = left.contains(" ") ? left.substring(0, left.indexOf(' ')) : left;
        String rest = left.contains(" ") ? left.substring(left.indexOf(' ') + 1) : "";
        switch (word) {
            case "REFUSED" -> refused(rest, due);
            case "FILL" -> fill(Integer.parseInt(rest));
            case "HEADS" -> heads(Integer.parseInt(rest));
            case "COUNT" -> {
                int times = Integer.parseInt(rest.substring(0, rest.indexOf(' ')));
                count(rest.substring(rest.indexOf(' ') + 1), times, Integer.parseInt(due));
            }
            case "NAME" -> name(rest);
            case "HEAD" -> { name(rest); answer("head()", due); }
            case "PASS" -> { name(rest); answer("pass()", due); }
            case "SORT" -> {
                name(rest.substring(rest.indexOf(' ') + 1));
                answer("sortAs(" + rest.substring(0, rest.indexOf(' ')) + ")", "1");
            }
            case "WORDS" -> same(line, due, words());
            case "GAPS" -> same(line, due, gaps());
            case "SIGNS" -> same(line, due, signs(Integer.parseInt(rest)));
            case "LABEL" -> same(line, due, label(Integer.parseInt(rest)));
            case "PATHS" -> same(line, due, paths());
            case "PLACES" -> same(line, due, places(Integer.parseInt(rest)));
            case "SEES" -> same(line, due, sees(Integer.parseInt(rest)));
            case "UNMATCHED" -> same(line, due, unmatched());
            default -> answer(left, due);
        }
    }

    private void same(String line, String due, String got) {
        check(due.trim().equals(got.trim()), title + ": " + line + ": got " + got);
    }

    private void answer(String call, String due) {
        int got = call(call);
        check(got == numberOf(due), title + ": " + call + " answered " + got + ", due is " + due);
    }

    private static int numberOf(String due) {
        return ANSWERS.containsKey(due) ? ANSWERS.get(due) : Integer.parseInt(due);
    }

    private int call(String text) {
        Call call = Call.of(text);
        made.add(call);
        return call.on(object);
    }

    /** The call is made on one of two objects that are alike otherwise, and both are looked at then. */
    private void refused(String text, String due) {
        Call call = Call.of(text);
        List<Call> with = new ArrayList<>(made);
        with.add(call);
        int acts = (MOST_CALLS - with.size()) / 10;
        List<String> before = View.of(made, acts);
        List<String> after = View.of(with, acts);
        check(before.equals(after), title + ": " + text + " changed something: " + unlike(before, after));
        for (int k = 0; k < AHEAD.length; k++) {
            faultBehind(call, due, AHEAD[k], AHEAD_FAULTS[k]);
        }
        answer(text, due);
        refusals.add(call.method().getName() + " " + due);
    }

    private static String unlike(List<String> before, List<String> after) {
        for (int k = 0; k < Math.min(before.size(), after.size()); k++) {
            if (!before.get(k).equals(after.get(k))) {
                return before.get(k) + " became " + after.get(k);
            }
        }
        return before.size() + " answers became " + after.size();
    }

    /** Whatever fault() told ahead of a refused call: one that names faults leaves its own or 0, another leaves it. */
    private void faultBehind(Call call, String due, String ahead, int aheadFault) {
        BackIndex fresh = View.behind(made);
        Call.of(ahead).on(fresh);
        call.on(fresh);
        int own = numberOf(due) <= -11 ? -10 - numberOf(due) : 0;
        int want = NAMES_FAULTS.contains(call.method().getName()) ? own : aheadFault;
        int got = fresh.fault();
        check(got == want, title + ": fault() behind " + ahead + ", " + call.text() + " is " + got + ", due is " + want);
    }

    private void count(String text, int times, int first) {
        for (int k = 0; k < times; k++) {
            answer(text, String.valueOf(first + k));
        }
    }

    /** Heads a, b, c .. z, and then z26, z27 .. so that they are in the order of their numbers. */
    private void heads(int count) {
        for (int h = 0; h < count; h++) {
            name(h < 26 ? String.valueOf((char) ('a' + h)) : "z" + h);
            answer("head()", String.valueOf(h));
        }
    }

    private void fill(int count) {
        int from = call("told(0)");
        for (int k = 0; k < count; k++) {
            call("put(" + (from + k) + ", " + k + ")");
        }
    }

    private void name(String text) {
        call("unname()");
        for (int from = 0; from < text.length(); from += 8) {
            String piece = text.substring(from, Math.min(from + 8, text.length()));
            call("name(" + packed(piece) + ", " + piece.length() + ")");
        }
    }

    static long packed(String text) {
        long w = 0;
        for (char sign : text.toCharArray()) {
            w = w << 8 | sign;
        }
        return w;
    }

    private String words() {
        StringBuilder text = new StringBuilder();
        int count = call("told(0)");
        for (int i = 0; i < count; i++) {
            text.append(call("word(" + i + ")")).append(' ');
        }
        return text.toString();
    }

    private String gaps() {
        StringBuilder text = new StringBuilder();
        int left = call("told(4)");
        for (int m = 0; m < 50 && left > 0; m++) {
            int gap = call("marked(" + m + ", 1)");
            text.append(gap < 0 ? "x" : gap).append(' ');
            left -= gap < 0 ? 0 : 1;
        }
        return text.toString();
    }

    private String signs(int head) {
        StringBuilder text = new StringBuilder();
        int count = call("about(" + head + ", 1)");
        for (int i = 0; i < count; i++) {
            text.append((char) call("sign(" + head + ", 1, " + i + ")"));
        }
        return text.toString();
    }

    private String label(int page) {
        StringBuilder text = new StringBuilder();
        int count = call("label(" + page + ")");
        for (int i = 0; i < count; i++) {
            text.append((char) call("labelSign(" + page + ", " + i + ")"));
        }
        check(call("labelSign(" + page + ", " + count + ")") == -9, title + ": page " + page + " has more signs than told");
        return text.toString();
    }

    private String paths() {
        StringBuilder text = new StringBuilder();
        int count = call("told(5)");
        for (int e = 0; e < count; e++) {
            int heads = call("entry(" + e + ", 6)");
            for (int k = 0; k < heads; k++) {
                text.append(k == 0 ? "" : ".").append(call("entry(" + e + ", " + k + ")"));
            }
            text.append(' ');
        }
        return text.toString();
    }

    private String places(int e) {
        StringBuilder text = new StringBuilder();
        int count = call("entry(" + e + ", 3)");
        for (int i = 0; i < count; i++) {
            int[] part = new int[4];
            for (int what = 0; what < 4; what++) {
                part[what] = call("place(" + e + ", " + i + ", " + what + ")");
            }
            text.append("R??MNP".charAt(part[0])).append(part[1]);
            if (part[0] == 0 || part[2] != part[1]) {
                text.append('-').append(part[2]);
            }
            if (part[0] == 4 || part[3] != 0) {
                text.append('/').append(part[3]);
            }
            text.append(' ');
        }
        return text.toString();
    }

    private String sees(int e) {
        StringBuilder text = new StringBuilder();
        int count = call("entry(" + e + ", 5)");
        for (int i = 0; i < count; i++) {
            String at = "sees(" + e + ", " + i + ", ";
            text.append(call(at + "1)") == 1 ? "also" : "see").append(call(at + "0)")).append('/');
            text.append(new String[] {"good", "lost", "round"}[call(at + "2)")]).append(' ');
        }
        return text.toString();
    }

    private String unmatched() {
        StringBuilder text = new StringBuilder();
        int count = call("unmatched()");
        for (int i = 0; i < count; i++) {
            text.append(call("unmatchedAt(" + i + ")")).append(' ');
        }
        return text.toString();
    }
}
