import java.math.BigInteger;
import java.util.ArrayDeque;
import java.util.ArrayList;
import java.util.Arrays;
import java.util.Comparator;
import java.util.Deque;
import java.util.HashSet;
import java.util.LinkedHashSet;
import java.util.List;
import java.util.Locale;
import java.util.Objects;
import java.util.Set;
import java.util.TreeMap;
import java.util.TreeSet;

/** The document once more, as directly as the Java library allows and with no thought of room or speed. */
final class Model {
    static final int UNKNOWN = -1, OUTSIDE = -2, STATE = -3, FULL = -4, NONE = -9;

    /** A word is an object of its own, so that marks can hold on to the word that they lie behind. */
    private static final class Word {
        final int value;

        Word(int value) {
            this.value = value;
        }
    }

    private record Head(String own, String sorted, boolean gone) {
        String sortSigns() {
            return sorted.isEmpty() ? own : sorted;
        }
    }

    private record Mark(int kind, Word behind, List<Integer> heads, int note, boolean gone) {
        boolean leads() {
            return kind >= 6;
        }
    }

    private record State(List<Word> words, List<Head> heads, List<Mark> marks) {
    }

    private record Part(int form, int number, int letter) {
    }

    private record Place(int kind, int first, int last, int note) {
    }

    private record Lead(int to, boolean also) {
    }

    private record Entry(List<Integer> path, String signs, List<Place> places, List<Lead> leads) {
    }

    private List<Word> words = new ArrayList<>();
    private List<Head> heads = new ArrayList<>();
    private List<Mark> marks = new ArrayList<>();
    private final Deque<State> acts = new ArrayDeque<>();
    private final TreeMap<Integer, Part> parts = new TreeMap<>();
    private final List<String> passed = new ArrayList<>();
    private List<Entry> index = new ArrayList<>();
    private List<Entry> former = new ArrayList<>();
    private TreeSet<Integer> loose = new TreeSet<>();
    private String name = "";
    private int flow = 10;
    private int trace = 0;
    private int fault = 0;
    private int trayKind = 3;
    private int trayNumber = 0;

    private void act() {
        acts.push(new State(new ArrayList<>(words), new ArrayList<>(heads), new ArrayList<>(marks)));
        if (acts.size() > 40) {
            acts.removeLast();
        }
    }

    // ---- 1

    int put(int i, int w) {
        if (i < 0 || i > words.size() || w < 0 || w > 9999) return OUTSIDE;
        if (words.size() == 300) return FULL;
        act();
        words.add(i, new Word(w));
        return words.size();
    }

    int take(int i) {
        if (i < 0 || i >= words.size()) return UNKNOWN;
        act();
        Word ahead = i == 0 ? null : words.get(i - 1);
        Word gone = words.remove(i);
        marks.replaceAll(m -> m.behind == gone ? new Mark(m.kind, ahead, m.heads, m.note, m.gone) : m);
        return gone.value;
    }

    int move(int i, int n, int j) {
        fault = 0;
        if (n < 0) return failed(4);
        if (i < 0 || (long) i + n > words.size() || j < 0 || (long) j + n > words.size()) return failed(3);
        if (n == 0) return 0;
        act();
        List<Word> moved = new ArrayList<>(words.subList(i, i + n));
        words.subList(i, i + n).clear();
        words.addAll(j, moved);
        return n;
    }

    int word(int i) {
        return i < 0 || i >= words.size() ? UNKNOWN : words.get(i).value;
    }

    int flow(int n) {
        if (n < 1 || n > 50) return OUTSIDE;
        int was = flow;
        flow = n;
        return was;
    }

    int part(int page, int form, int number, int letter) {
        if (page < 0 || page > 299 || form < 0 || form > 2 || number < 1 || number > 999) return OUTSIDE;
        if (form == 2 && (letter < 65 || letter > 90)) return OUTSIDE;
        if (parts.size() == 8 && !parts.containsKey(page)) return FULL;
        parts.put(page, new Part(form, number, letter));
        return parts.size();
    }

    private int pages() {
        return Math.max(1, (int) Math.ceil(words.size() / (double) flow));
    }

    private int begin(int page) {
        return parts.floorKey(page) == null ? 0 : parts.floorKey(page);
    }

    private Part partOf(int page) {
        return parts.floorKey(page) == null ? new Part(1, 1, 0) : parts.floorEntry(page).getValue();
    }

    private String labelOf(int page) {
        Part part = partOf(page);
        int number = part.number + page - begin(page);
        if (part.form == 0) return roman(number);
        return (part.form == 2 ? (char) part.letter + "-" : "") + number;
    }

    private static String roman(int number) {
        return "m".repeat(number / 1000) + romanDigit(number / 100 % 10, "c", "d", "m")
                + romanDigit(number / 10 % 10, "x", "l", "c") + romanDigit(number % 10, "i", "v", "x");
    }

    private static String romanDigit(int digit, String one, String five, String ten) {
        if (digit == 9) return one + ten;
        if (digit == 4) return one + five;
        return (digit >= 5 ? five : "") + one.repeat(digit % 5);
    }

    int label(int page) {
        return page < 0 || page >= pages() ? UNKNOWN : labelOf(page).length();
    }

    int labelSign(int page, int i) {
        if (page < 0 || page >= pages()) return UNKNOWN;
        return i < 0 || i >= labelOf(page).length() ? NONE : labelOf(page).charAt(i);
    }

    int labelled(int form, int number, int letter) {
        if (form < 0 || form > 2) return OUTSIDE;
        for (int page = 0; page < pages(); page++) {
            Part part = partOf(page);
            boolean isLike = part.form == form && part.number + page - begin(page) == number;
            if (isLike && (form != 2 || part.letter == letter)) return page;
        }
        return NONE;
    }

    // ---- 2

    int name(long w, int n) {
        if (n < 1 || n > 8) return OUTSIDE;
        String more = "";
        for (int k = n - 1; k >= 0; k--) {
            long sign = w >> 8 * k & 0xFF;
            if (sign < 32 || sign > 126) return OUTSIDE;
            more += (char) sign;
        }
        if (name.length() + n > 16) return FULL;
        name += more;
        return name.length();
    }

    int unname() {
        int was = name.length();
        name = "";
        return was;
    }

    private boolean isHead(int head) {
        return head >= 0 && head < heads.size() && !heads.get(head).gone;
    }

    private boolean isMark(int mark) {
        return mark >= 0 && mark < marks.size() && !marks.get(mark).gone;
    }

    private boolean hasStrayBlank() {
        return name.startsWith(" ") || name.endsWith(" ") || name.contains("  ");
    }

    private boolean isTaken() {
        return heads.stream().anyMatch(h -> !h.gone && h.own.equals(name));
    }

    int head() {
        if (name.isEmpty() || hasStrayBlank() || isTaken()) return STATE;
        if (heads.size() == 30) return FULL;
        act();
        heads.add(new Head(name, "", false));
        return heads.size() - 1;
    }

    int sortAs(int head) {
        if (!isHead(head)) return UNKNOWN;
        if (hasStrayBlank()) return STATE;
        act();
        heads.set(head, new Head(heads.get(head).own, name, false));
        return 1;
    }

    int pass() {
        if (!name.matches("[A-Za-z]+") || passed.stream().anyMatch(p -> p.equalsIgnoreCase(name))) return STATE;
        if (passed.size() == 4) return FULL;
        passed.add(name);
        return passed.size();
    }

    int about(int head, int what) {
        if (!isHead(head)) return UNKNOWN;
        if (what < 0 || what > 1) return OUTSIDE;
        return (what == 0 ? heads.get(head).own : heads.get(head).sortSigns()).length();
    }

    int sign(int head, int what, int i) {
        if (!isHead(head)) return UNKNOWN;
        if (what < 0 || what > 1) return OUTSIDE;
        String signs = what == 0 ? heads.get(head).own : heads.get(head).sortSigns();
        return i < 0 || i >= signs.length() ? NONE : signs.charAt(i);
    }

    private List<String> bits(Head head, int order) {
        String signs = head.sortSigns();
        int blank = signs.indexOf(' ');
        if (blank >= 0) {
            String ahead = signs.substring(0, blank);
            if (passed.stream().anyMatch(p -> p.equalsIgnoreCase(ahead))) signs = signs.substring(blank + 1);
        }
        List<String> bits = new ArrayList<>(Arrays.asList(signs.toLowerCase(Locale.ROOT).split("(?<=\\D)|(?=\\D)")));
        bits.removeIf(String::isEmpty);
        if (order == 0) bits.removeIf(" "::equals);
        return bits;
    }

    private static int classOf(String bit) {
        if (bit == null) return 0;
        if (bit.equals(" ")) return 1;
        if (Character.isDigit(bit.charAt(0))) return 3;
        return Character.isLetter(bit.charAt(0)) ? 4 : 2;
    }

    private int order(int a, int b, int order) {
        List<String> left = bits(heads.get(a), order);
        List<String> right = bits(heads.get(b), order);
        for (int k = 0; k < Math.max(left.size(), right.size()); k++) {
            String x = k < left.size() ? left.get(k) : null;
            String y = k < right.size() ? right.get(k) : null;
            if (classOf(x) != classOf(y)) return Integer.compare(classOf(x), classOf(y));
            int parted = classOf(x) == 3 ? new BigInteger(x).compareTo(new BigInteger(y)) : x.compareTo(y);
            if (parted != 0) return Integer.signum(parted);
        }
        return Integer.signum(heads.get(a).own.compareTo(heads.get(b).own));
    }

    int compare(int a, int b, int order) {
        if (!isHead(a) || !isHead(b)) return UNKNOWN;
        if (order < 0 || order > 1) return OUTSIDE;
        return order(a, b, order) - 100;
    }

    int rename(int head) {
        if (!isHead(head)) return UNKNOWN;
        if (name.isEmpty() || hasStrayBlank() || isTaken()) return STATE;
        act();
        heads.set(head, new Head(name, heads.get(head).sorted, false));
        return 1;
    }

    int meld(int head, int into) {
        if (!isHead(head) || !isHead(into)) return UNKNOWN;
        if (head == into) return STATE;
        for (Mark m : marks) {
            if (!m.gone && m.leads() && new HashSet<>(m.heads).equals(Set.of(head, into))) return STATE;
        }
        act();
        int count = 0;
        for (int k = 0; k < marks.size(); k++) {
            Mark m = marks.get(k);
            if (!m.gone && m.heads.contains(head)) {
                List<Integer> other = m.heads.stream().map(h -> h == head ? into : h).toList();
                marks.set(k, new Mark(m.kind, m.behind, other, m.note, false));
                count++;
            }
        }
        heads.set(head, new Head(heads.get(head).own, heads.get(head).sorted, true));
        return count;
    }

    private Word behind(int gap) {
        return gap == 0 ? null : words.get(gap - 1);
    }

    private int gap(Mark m) {
        return m.behind == null ? 0 : words.indexOf(m.behind) + 1;
    }

    private int page(Mark m) {
        return m.behind == null ? 0 : words.indexOf(m.behind) / flow;
    }

    int mark(int gap, int kind, int a, int b, int c, int note) {
        if (gap < 0 || gap > words.size() || !isHead(a)) return UNKNOWN;
        if (b != NONE && !isHead(b) || c != NONE && !isHead(c)) return UNKNOWN;
        if (kind < 0 || kind > 5 || kind == 4 && (note < 1 || note > 99)) return OUTSIDE;
        if (b == NONE && c != NONE) return STATE;
        if (marks.size() == 50) return FULL;
        act();
        marks.add(new Mark(kind, behind(gap), path(a, b, c), kind == 4 ? note : 0, false));
        return marks.size() - 1;
    }

    private static List<Integer> path(int... path) {
        return Arrays.stream(path).filter(h -> h != NONE).boxed().toList();
    }

    int see(int gap, int from, int to, boolean isAlso) {
        if (gap < 0 || gap > words.size() || !isHead(from) || !isHead(to)) return UNKNOWN;
        if (from == to) return STATE;
        if (marks.size() == 50) return FULL;
        act();
        marks.add(new Mark(isAlso ? 7 : 6, behind(gap), List.of(from, to), 0, false));
        return marks.size() - 1;
    }

    int drop(int mark) {
        if (!isMark(mark)) return UNKNOWN;
        act();
        Mark m = marks.get(mark);
        marks.set(mark, new Mark(m.kind, m.behind, m.heads, m.note, true));
        return 1;
    }

    int marked(int mark, int what) {
        if (!isMark(mark)) return UNKNOWN;
        if (what < 0 || what > 6) return OUTSIDE;
        Mark m = marks.get(mark);
        if (what >= 2 && what <= 4) return what - 2 < m.heads.size() ? m.heads.get(what - 2) : NONE;
        return switch (what) {
            case 0 -> m.kind;
            case 1 -> gap(m);
            case 5 -> m.note;
            default -> page(m);
        };
    }

    private void leave(int... bodies) {
        for (int body : bodies) trace = 31 * trace + body;
    }

    int tell(int mark) {
        if (!isMark(mark)) return UNKNOWN;
        switch (marks.get(mark).kind) {
            case 3: leave(2, 1); return 10;
            case 4: leave(3, 1); return 1 + marks.get(mark).note;
            case 6: leave(4); return 5;
            case 7: leave(5, 4); return 6;
            default: leave(1); return 1;
        }
    }

    int show(int mark) {
        fault = 0;
        if (!isMark(mark)) return UNKNOWN;
        Mark m = marks.get(mark);
        if (m.leads()) return failed(2);
        leave(m.kind == 3 ? 7 : 6);
        return (m.kind == 3 ? 200 : 100) + gap(m);
    }

    // ---- 3

    int build(int order, int near, int chief) {
        if (order < 0 || order > 1 || near < 0 || near > 20 || chief < 0 || chief > 1) return OUTSIDE;
        former = index;
        loose = new TreeSet<>();
        Set<List<Integer>> paths = new HashSet<>();
        for (Mark m : marks) {
            if (m.gone) continue;
            for (int n = 1; n <= (m.leads() ? 1 : m.heads.size()); n++) paths.add(m.heads.subList(0, n));
        }
        List<List<Integer>> sorted = new ArrayList<>(paths);
        sorted.sort((x, y) -> byPath(x, y, order));
        index = new ArrayList<>();
        for (List<Integer> path : sorted) {
            index.add(new Entry(path, heads.get(path.get(0)).sortSigns(), places(path, near, chief), new ArrayList<>()));
        }
        for (Entry e : index) {
            if (e.path.size() == 1) e.leads.addAll(leads(e, order));
        }
        return index.size();
    }

    private int byPath(List<Integer> x, List<Integer> y, int order) {
        for (int k = 0; k < Math.min(x.size(), y.size()); k++) {
            int parted = order(x.get(k), y.get(k), order);
            if (parted != 0) return parted;
        }
        return Integer.compare(x.size(), y.size());
    }

    private List<Place> places(List<Integer> path, int near, int chief) {
        List<Mark> own = marks.stream().filter(m -> !m.gone && !m.leads() && m.heads.equals(path))
                .sorted(Comparator.comparingInt(this::gap)).toList();
        Set<Place> places = new HashSet<>();
        for (Mark m : own) {
            if (m.kind >= 3) places.add(new Place(m.kind, page(m), page(m), m.note));
        }
        for (int[] run : melted(thinned(runs(own), places), near)) places.add(new Place(0, run[0], run[1], 0));
        List<Place> sorted = new ArrayList<>(places);
        List<Integer> kinds = List.of(3, 0, 5, 4);
        sorted.sort(Comparator.comparingInt((Place p) -> chief == 1 && p.kind != 3 ? 1 : 0)
                .thenComparingInt(p -> p.first).thenComparingInt(p -> kinds.indexOf(p.kind)).thenComparingInt(p -> p.note));
        return sorted;
    }

    private List<int[]> runs(List<Mark> own) {
        List<int[]> runs = new ArrayList<>();
        List<Mark> ends = own.stream().filter(m -> m.kind == 1 || m.kind == 2).toList();
        Set<Integer> matched = new HashSet<>();
        for (int k = 0; k + 1 < ends.size(); k++) {
            if (ends.get(k).kind == 1 && ends.get(k + 1).kind == 2) {
                runs.add(new int[] {page(ends.get(k)), page(ends.get(k + 1))});
                matched.add(k);
                matched.add(k + 1);
            }
        }
        for (int k = 0; k < ends.size(); k++) {
            if (!matched.contains(k)) {
                runs.add(new int[] {page(ends.get(k)), page(ends.get(k))});
                loose.add(number(ends.get(k)));
            }
        }
        for (Mark m : own) {
            if (m.kind == 0) runs.add(new int[] {page(m), page(m)});
        }
        return runs;
    }

    private int number(Mark m) {
        for (int k = 0; k < marks.size(); k++) {
            if (marks.get(k) == m) return k;
        }
        throw new IllegalStateException();
    }

    private List<int[]> thinned(List<int[]> runs, Set<Place> places) {
        List<int[]> left = new ArrayList<>();
        for (int a = 0; a < runs.size(); a++) {
            int[] run = runs.get(a);
            boolean goes = run[0] == run[1] && places.contains(new Place(3, run[0], run[0], 0));
            for (int b = 0; b < runs.size(); b++) {
                int[] other = runs.get(b);
                boolean isLike = other[0] == run[0] && other[1] == run[1];
                goes |= isLike ? b < a : other[0] <= run[0] && other[1] >= run[1];
            }
            if (!goes) left.add(run);
        }
        left.sort(Comparator.comparingInt(run -> run[0]));
        return left;
    }

    private static List<int[]> melted(List<int[]> runs, int near) {
        for (int k = 0; near > 0 && k + 1 < runs.size();) {
            int[] run = runs.get(k);
            int[] next = runs.get(k + 1);
            if (next[0] - run[1] > near) {
                k++;
            } else {
                runs.set(k, new int[] {run[0], Math.max(run[1], next[1])});
                runs.remove(k + 1);
            }
        }
        return runs;
    }

    private List<Lead> leads(Entry e, int order) {
        int from = e.path.get(0);
        Set<Integer> all = new LinkedHashSet<>();
        int sees = 0;
        for (int kind = 6; kind <= 7; kind++) {
            for (int to : led(from, kind, order)) all.add(to);
            sees = kind == 6 ? all.size() : sees;
        }
        List<Lead> leads = new ArrayList<>();
        for (int to : all) leads.add(new Lead(to, leads.size() >= sees || hasBody(e)));
        return leads;
    }

    private List<Integer> led(int from, int kind, int order) {
        List<Integer> to = new ArrayList<>();
        for (Mark m : marks) {
            if (!m.gone && m.kind == kind && m.heads.get(0) == from) to.add(m.heads.get(1));
        }
        to.sort((x, y) -> order(x, y, order));
        return to;
    }

    private List<Entry> within(Entry e) {
        return index.stream().filter(x -> x.path.size() == e.path.size() + 1
                && x.path.subList(0, e.path.size()).equals(e.path)).toList();
    }

    private boolean hasBody(Entry e) {
        return !e.places.isEmpty() || !within(e).isEmpty();
    }

    private int state(int head) {
        Set<Integer> come = new HashSet<>();
        for (int to = head; come.add(to);) {
            int at = to;
            Entry e = index.stream().filter(x -> x.path.equals(List.of(at))).findFirst().orElse(null);
            if (e == null) return 1;
            if (hasBody(e)) return 0;
            to = e.leads.get(0).to;
        }
        return 2;
    }

    int entry(int e, int what) {
        if (e < 0 || e >= index.size()) return UNKNOWN;
        if (what < 0 || what > 6) return OUTSIDE;
        Entry x = index.get(e);
        if (what <= 2) return what < x.path.size() ? x.path.get(what) : NONE;
        return List.of(x.places.size(), within(x).size(), x.leads.size(), x.path.size()).get(what - 3);
    }

    int place(int e, int i, int what) {
        if (e < 0 || e >= index.size() || i < 0 || i >= index.get(e).places.size()) return UNKNOWN;
        if (what < 0 || what > 3) return OUTSIDE;
        Place p = index.get(e).places.get(i);
        return List.of(p.kind, p.first, p.last, p.note).get(what);
    }

    int sees(int e, int i, int what) {
        if (e < 0 || e >= index.size() || i < 0 || i >= index.get(e).leads.size()) return UNKNOWN;
        if (what < 0 || what > 2) return OUTSIDE;
        Lead lead = index.get(e).leads.get(i);
        return List.of(lead.to, lead.also ? 1 : 0, state(lead.to)).get(what);
    }

    int find(int a, int b, int c) {
        if (!isHead(a) || b != NONE && !isHead(b) || c != NONE && !isHead(c)) return UNKNOWN;
        if (b == NONE && c != NONE) return STATE;
        for (int e = 0; e < index.size(); e++) {
            if (index.get(e).path.equals(path(a, b, c))) return e;
        }
        return NONE;
    }

    int first() {
        if (name.isEmpty()) return STATE;
        for (int e = 0; e < index.size(); e++) {
            boolean begins = index.get(e).signs.regionMatches(true, 0, name, 0, name.length());
            if (index.get(e).path.size() == 1 && begins) return e;
        }
        return NONE;
    }

    int unmatched() {
        return loose.size();
    }

    int unmatchedAt(int i) {
        return i < 0 || i >= loose.size() ? UNKNOWN : new ArrayList<>(loose).get(i);
    }

    int led(int what) {
        if (what < 0 || what > 2) return OUTSIDE;
        return (int) index.stream().flatMap(e -> e.leads.stream()).filter(lead -> state(lead.to) == what).count();
    }

    int changed() {
        Set<List<Integer>> paths = new HashSet<>();
        for (List<Entry> entries : List.of(index, former)) {
            for (Entry e : entries) paths.add(e.path);
        }
        int count = 0;
        for (List<Integer> path : paths) {
            Entry now = index.stream().filter(e -> e.path.equals(path)).findFirst().orElse(null);
            Entry was = former.stream().filter(e -> e.path.equals(path)).findFirst().orElse(null);
            boolean isLike = now != null && was != null && Objects.equals(now.places, was.places)
                    && Objects.equals(now.leads, was.leads);
            if (!isLike) count++;
        }
        return count;
    }

    int shorten(int a, int b, int rule) {
        if (rule < 0 || rule > 2 || a < 1 || a > 999999 || b < a || b > 999999) return OUTSIDE;
        String x = "" + a;
        String y = "" + b;
        if (rule == 0 || x.length() != y.length()) return y.length();
        int alike = 0;
        while (alike < y.length() && x.charAt(alike) == y.charAt(alike)) alike++;
        int least = rule == 1 || y.length() == 1 ? 1 : 2;
        return Math.max(least, y.length() - alike);
    }

    int unfold(int a, int s, int digits) {
        if (a < 1 || a > 999999 || s < 0 || s > 999999 || digits < 1 || digits > 6) return OUTSIDE;
        String last = "" + s;
        if (last.length() > digits) return OUTSIDE;
        if (s >= a) return s;
        String whole = "000000" + a;
        last = "0".repeat(digits - last.length()) + last;
        int meant = Integer.parseInt(whole.substring(0, whole.length() - digits) + last);
        return meant < a ? STATE : meant;
    }

    // ---- 4

    int undo() {
        if (acts.isEmpty()) return STATE;
        State state = acts.pop();
        words = state.words;
        heads = state.heads;
        marks = state.marks;
        return acts.size();
    }

    int tray(int kind, int number) {
        if (kind < 0 || kind > 3) return OUTSIDE;
        if (kind == 0 && !isHead(number) || kind == 1 && !isMark(number)) return UNKNOWN;
        if (kind == 2 && (number < 0 || number >= pages())) return UNKNOWN;
        trayKind = kind;
        trayNumber = number;
        return 1;
    }

    int taken(int kind) {
        fault = 0;
        if (kind < 0 || kind > 2) return OUTSIDE;
        if (trayKind == 3) return failed(1);
        return trayKind == kind ? trayNumber : failed(2);
    }

    int match(int a, int i, int b, int j, int n) {
        fault = 0;
        if (!isHead(a) || !isHead(b)) return UNKNOWN;
        if (n < 0) return failed(4);
        String x = heads.get(a).own;
        String y = heads.get(b).own;
        if (i < 0 || (long) i + n > x.length() || j < 0 || (long) j + n > y.length()) return failed(3);
        return x.substring(i, i + n).equals(y.substring(j, j + n)) ? 1 : 0;
    }

    int trace() {
        return trace;
    }

    private int failed(int newFault) {
        fault = newFault;
        return -10 - newFault;
    }

    int fault() {
        return fault;
    }

    int told(int what) {
        if (what < 0 || what > 8) return OUTSIDE;
        int thereHeads = (int) heads.stream().filter(h -> !h.gone).count();
        int thereMarks = (int) marks.stream().filter(m -> !m.gone).count();
        return List.of(words.size(), pages(), parts.size(), thereHeads, thereMarks, index.size(), name.length(),
                passed.size(), acts.size()).get(what);
    }
}
