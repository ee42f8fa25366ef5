import java.util.ArrayList;
import java.util.List;
import java.util.function.ToIntFunction;

/**
 * All that can be seen of an object behind a run of calls. The run is made again on a new object as often as is wanted,
 * so that none is asked for more calls than are promised.
 */
final class View {
    private final List<Call> made;
    private final List<String> seen = new ArrayList<>();
    private BackIndex object;
    private int left = 0;

    private View(List<Call> made) {
        this.made = made;
        if (made.size() > Calls.MOST_CALLS - 60) {
            throw new IllegalStateException("a run of " + made.size() + " calls leaves none to look with");
        }
    }

    /** What is seen behind so many of the latest acts, undone one by one, is a part of it. */
    static List<String> of(List<Call> made, int acts) {
        View view = new View(made);
        view.book();
        view.heads();
        view.marks();
        view.index();
        view.rest();
        view.name();
        view.undone(acts);
        return view.seen;
    }

    /** A new object behind the run. */
    static BackIndex behind(List<Call> made) {
        BackIndex fresh = new BackIndex();
        for (Call each : made) {
            each.on(fresh);
        }
        return fresh;
    }

    private void renew() {
        object = behind(made);
        left = Calls.MOST_CALLS - made.size();
    }

    /** A question that changes nothing, so it does not matter which of the objects is asked. */
    private int ask(String what, ToIntFunction<BackIndex> question) {
        if (left == 0) {
            renew();
        }
        return see(what, question);
    }

    private int see(String what, ToIntFunction<BackIndex> call) {
        left--;
        int answer = call.applyAsInt(object);
        seen.add(what + " " + answer);
        return answer;
    }

    private void book() {
        int words = ask("told 0", x -> x.told(0));
        for (int i = 0; i < words; i++) {
            int at = i;
            ask("word " + i, x -> x.word(at));
        }
        int pages = ask("told 1", x -> x.told(1));
        for (int p = 0; p < pages; p++) {
            int page = p;
            int signs = ask("label " + p, x -> x.label(page));
            for (int i = 0; i < signs; i++) {
                int at = i;
                ask("labelSign " + p + " " + i, x -> x.labelSign(page, at));
            }
        }
    }

    private void heads() {
        for (int h = 0; h < 30; h++) {
            int head = h;
            for (int w = 0; w <= 1; w++) {
                int what = w;
                int signs = ask("about " + h + " " + w, x -> x.about(head, what));
                for (int i = 0; i < signs; i++) {
                    int at = i;
                    ask("sign " + h + " " + w + " " + i, x -> x.sign(head, what, at));
                }
                ask("compare " + h + " to the one ahead by " + w, x -> x.compare(head, head - 1, what));
            }
        }
    }

    private void marks() {
        for (int m = 0; m < 50; m++) {
            int mark = m;
            boolean isThere = ask("marked " + m, x -> x.marked(mark, 0)) >= 0;
            for (int w = 1; w <= 6 && isThere; w++) {
                int what = w;
                ask("marked " + m + " " + w, x -> x.marked(mark, what));
            }
        }
    }

    private void index() {
        int entries = ask("told 5", x -> x.told(5));
        for (int k = 0; k < entries; k++) {
            int e = k;
            for (int w = 0; w <= 6; w++) {
                int what = w;
                ask("entry " + e + " " + w, x -> x.entry(e, what));
            }
            parts("place " + e, ask("places " + e, x -> x.entry(e, 3)), 3, (x, i, what) -> x.place(e, i, what));
            parts("sees " + e, ask("sees " + e, x -> x.entry(e, 5)), 2, (x, i, what) -> x.sees(e, i, what));
        }
        int unmatched = ask("unmatched", BackIndex::unmatched);
        parts("unmatchedAt", unmatched, 0, (x, i, what) -> x.unmatchedAt(i));
        ask("changed", BackIndex::changed);
    }

    private interface Part {
        int of(BackIndex x, int i, int what);
    }

    private void parts(String title, int count, int most, Part part) {
        for (int i = 0; i < count; i++) {
            int at = i;
            for (int w = 0; w <= most; w++) {
                int what = w;
                ask(title + " " + i + " " + w, x -> part.of(x, at, what));
            }
        }
    }

    private void rest() {
        for (int w : new int[] {2, 3, 4, 6, 7, 8}) {
            ask("told " + w, x -> x.told(w));
        }
        for (int w = 0; w <= 2; w++) {
            int what = w;
            ask("led " + w, x -> x.led(what));
            ask("taken " + w, x -> x.taken(what));
        }
        ask("trace", BackIndex::trace);
        renew();
        see("flow", x -> x.flow(10));
    }

    /** THE NAME can only be seen as what a head is sorted by, or as a head's. */
    private void name() {
        renew();
        for (int h = 0; h < 30; h++) {
            int head = h;
            if (see("about " + h, x -> x.about(head, 0)) > 0) {
                see("sortAs " + h, x -> x.sortAs(head));
                nameOf(h, 1);
                return;
            }
        }
        if (see("head", BackIndex::head) >= 0) {
            nameOf(0, 0);
        }
    }

    private void nameOf(int head, int what) {
        for (int i = 0; i < 16 && left > 0; i++) {
            int at = i;
            see("sign of THE NAME " + i, x -> x.sign(head, what, at));
        }
    }

    private void undone(int acts) {
        renew();
        boolean isUndone = true;
        for (int k = 0; k < acts && isUndone; k++) {
            isUndone = see("undo", BackIndex::undo) >= 0;
            see("words then", x -> x.told(0));
            see("first word then", x -> x.word(0));
            see("heads then", x -> x.told(3));
            see("a sign then", x -> x.sign(0, 0, 0));
            see("a sign to sort by then", x -> x.sign(0, 1, 0));
            see("marks then", x -> x.told(4));
            see("a gap then", x -> x.marked(0, 1));
            see("a head of a mark then", x -> x.marked(0, 2));
            see("acts then", x -> x.told(8));
        }
    }
}
