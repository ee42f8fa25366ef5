import java.io.IOException;
import java.util.ArrayList;
import java.util.List;

/** The edges of promises 27 to 38, each by the words that name it. */
public final class IndexEdgeTest {
    /** Six heads a to f, and 50 words, two on a page. */
    private static final String[] BOOK = {"HEADS 6", "FILL 50", "flow(2) = 10"};

    public static void main(String[] args) throws IOException {
        build();
        buildStays();
        builtAnew();
        buildOutside();
        entry();
        place();
        sees();
        find();
        first();
        firstSorted();
        firstRefused();
        unmatched();
        unmatchedAt();
        led();
        allSees();
        changed();
        changedPlaces();
        changedSees();
        changedLast();
        shorten();
        shortenOutside();
        unfold();
        unfoldOutside();
        unfoldState();
        Edges.end(args, 27, 38);
    }

    private static void of(int promise, String words, String... lines) {
        Edges.of(promise, words, Edges.join(BOOK, lines));
    }

    /** All 30 heads, and 50 marks with as many paths as there can be of them. */
    private static String[] greatest(String... then) {
        List<String> lines = new ArrayList<>(List.of("HEADS 30"));
        for (int m = 0; m < 50; m++) {
            lines.add("mark(0, 0, " + m % 30 + ", " + (m + m / 30) % 30 + ", " + (m + 7) % 30 + ", 0) = " + m);
        }
        lines.addAll(List.of(then));
        return lines.toArray(new String[0]);
    }

    private static void build() {
        String words = "THE INDEX is built, by an order 0, 1, NEAR and CHIEF: how many ENTRIES.";
        Edges.of(27, words, "build(0, 0, 0) = 0", "told(5) = 0", "HEAD a = 0", "build(1, 20, 1) = 0", "mark(0, 0, 0, NONE, NONE, 0) = 0",
                "told(5) = 0", "build(0, 0, 0) = 1", "told(5) = 1", "told(8) = 2", "drop(0) = 1", "told(5) = 1", "build(0, 0, 0) = 0",
                "told(5) = 0");
        Edges.of(27, words, greatest("build(0, 0, 0) = 130", "told(5) = 130", "entry(0, 0) = 0", "entry(0, 6) = 1", "entry(0, 4) = 2",
                "entry(129, 0) = 29", "entry(129, 1) = 29", "entry(129, 2) = 6", "entry(129, 3) = 1", "entry(129, 6) = 3",
                "entry(130, 0) = UNKNOWN", "place(129, 0, 0) = 0", "find(29, NONE, NONE) = 127", "find(29, 29, 6) = 129",
                "changed() = 130", "build(1, 20, 1) = 130", "changed() = 0", "build(0, 0, 0) = 130", "unmatched() = 0"));
        Edges.of(27, words, "HEADS 30", "COUNT 50 mark(0, 0, 29, 29, 29, 0) = 0", "build(0, 0, 0) = 3", "PATHS = 29 29.29 29.29.29",
                "PLACES 2 = R0-0", "PLACES 0 = ", "entry(0, 4) = 1", "entry(1, 4) = 1", "entry(2, 4) = 0");
    }

    private static void buildStays() {
        String words = "(It stays as it is, whatever comes, till it is built anew.)";
        of(27, words, Edges.on(3, 0, 0, 0), Edges.on(5, 1, 0, 1), "see(0, 1, 2, false) = 2", Edges.on(6, 3, 2, 3), "build(0, 0, 0) = 3",
                "flow(1) = 2", "take(0) = 0", "move(0, 40, 5) = 40", "put(0, 1) = 50", "drop(0) = 1", "drop(3) = 1", "see(0, 1, 3, true) = 4",
                "meld(0, 4) = 1", "NAME zz", "rename(1) = 1", "SORT 2 0", "PASS q = 1", "undo() = 39",
                "PATHS = 0 1 2", "PLACES 0 = R3-3 R5-5", "SEES 1 = see2/good", "PLACES 2 = M6", "UNMATCHED = 1", "led(0) = 1", "led(1) = 0",
                "changed() = 3", "NAME b", "first() = 1", "NAME zz", "first() = NONE", "build(0, 0, 0) = 2", "PATHS = 4 1",
                "changed() = 4", "first() = 1");
    }

    /** What was built before leaves nothing in what is built anew, however much less that is. */
    private static void builtAnew() {
        String words = "till it is built anew.";
        of(27, words, "mark(2, 0, 0, 1, 2, 0) = 0", Edges.on(0, 1, 3, 1), "see(0, 4, 5, true) = 2", "build(0, 0, 0) = 5", "build(0, 0, 0) = 5",
                "drop(0) = 1", "drop(1) = 1", "drop(2) = 1", "build(0, 0, 0) = 0", "build(0, 0, 0) = 0", "find(0, NONE, NONE) = NONE",
                "find(3, NONE, NONE) = NONE", "NAME a", "first() = NONE", "NAME d", "first() = NONE", "entry(0, 0) = UNKNOWN",
                "unmatched() = 0", "unmatchedAt(0) = UNKNOWN", "led(0) = 0", "led(1) = 0", "led(2) = 0", "changed() = 0");
        of(27, words, "mark(2, 0, 0, 1, NONE, 0) = 0", "see(0, 0, 2, false) = 1", "build(0, 0, 0) = 2", "build(0, 0, 0) = 2", "SEES 0 = also2/lost",
                "drop(0) = 1", "build(0, 0, 0) = 1", "build(0, 0, 0) = 1", "entry(0, 4) = 0", "SEES 0 = see2/lost", "find(0, 1, NONE) = NONE");
        of(27, words, Edges.on(0, 0, 0, 0), "see(0, 1, 2, false) = 1", Edges.on(3, 3, 2, 2), "build(0, 0, 0) = 3", "build(0, 0, 0) = 3",
                "drop(0) = 1", "build(0, 0, 0) = 2", "build(0, 0, 0) = 2", "PATHS = 1 2", "SEES 0 = see2/good", "led(0) = 1", "PLACES 0 = ",
                "PLACES 1 = M3", "NAME c", "first() = 1", "drop(2) = 1", "build(0, 0, 0) = 1", "build(0, 0, 0) = 1", "led(0) = 0", "led(1) = 1");
        of(27, words, Edges.on(0, 5, 5, 0), "see(0, 0, 5, false) = 1", "see(0, 5, 0, false) = 2", "build(0, 0, 0) = 2", "build(0, 0, 0) = 2",
                "drop(2) = 1", "drop(0) = 1", "build(0, 0, 0) = 1", "build(0, 0, 0) = 1", "PATHS = 0", "SEES 0 = see5/lost", "led(1) = 1", "led(0) = 0");
    }

    private static void buildOutside() {
        String words = "OUTSIDE: order, near is not 0 .. 20, chief is not 0, 1.";
        of(27, words, Edges.on(0, 0, 0, 0), "build(0, 0, 0) = 1", Edges.on(0, 0, 1, 1),
                "REFUSED build(-1, 0, 0) = OUTSIDE", "REFUSED build(2, 0, 0) = OUTSIDE", "REFUSED build(LEAST, 0, 0) = OUTSIDE",
                "REFUSED build(MOST, 0, 0) = OUTSIDE", "build(1, 0, 0) = 2", "changed() = 1");
        of(27, words, Edges.on(0, 0, 0, 0), "build(0, 0, 0) = 1", Edges.on(20, 0, 0, 1),
                "REFUSED build(0, -1, 0) = OUTSIDE", "REFUSED build(0, 21, 0) = OUTSIDE", "REFUSED build(0, LEAST, 0) = OUTSIDE",
                "REFUSED build(0, MOST, 0) = OUTSIDE", "PLACES 0 = R0-0", "build(0, 20, 0) = 1", "PLACES 0 = R0-20", "build(0, 19, 0) = 1",
                "PLACES 0 = R0-0 R20-20", "REFUSED build(0, 21, 0) = OUTSIDE");
        of(27, words, Edges.on(0, 0, 0, 0), Edges.on(1, 3, 0, 1), "build(0, 0, 0) = 1", "REFUSED build(0, 0, -1) = OUTSIDE",
                "REFUSED build(0, 0, 2) = OUTSIDE", "REFUSED build(0, 0, LEAST) = OUTSIDE", "REFUSED build(0, 0, MOST) = OUTSIDE",
                "PLACES 0 = R0-0 M1", "build(0, 0, 1) = 1", "PLACES 0 = M1 R0-0", "REFUSED build(0, 0, 2) = OUTSIDE", "changed() = 1");
    }

    private static void entry() {
        of(28, "Of an ENTRY: 0, 1, 2 its HEADS (NONE), 3 how many PLACES, 4 ENTRIES just within it, 5 SEES, 6 how many HEADS its PATH has.",
                "mark(2, 0, 0, 1, 2, 0) = 0", "mark(4, 0, 0, 1, 2, 0) = 1", "mark(2, 0, 0, 1, 3, 0) = 2", "mark(2, 0, 0, 2, NONE, 0) = 3",
                "see(0, 0, 4, false) = 4", "see(0, 0, 5, false) = 5", "see(0, 5, 4, false) = 6", "build(0, 0, 0) = 6",
                "PATHS = 0 0.1 0.1.2 0.1.3 0.2 5", "entry(0, 0) = 0", "entry(0, 1) = NONE", "entry(0, 2) = NONE", "entry(0, 3) = 0",
                "entry(0, 4) = 2", "entry(0, 5) = 2", "entry(0, 6) = 1", "entry(1, 1) = 1", "entry(1, 2) = NONE", "entry(1, 4) = 2",
                "entry(1, 5) = 0", "entry(1, 6) = 2", "entry(2, 2) = 2", "entry(2, 3) = 2", "entry(2, 4) = 0", "entry(2, 6) = 3",
                "entry(5, 0) = 5", "entry(5, 3) = 0", "entry(5, 4) = 0", "entry(5, 5) = 1", "entry(5, 6) = 1");
        of(28, "UNKNOWN; OUTSIDE.",
                "REFUSED entry(0, 0) = UNKNOWN", Edges.on(0, 0, 0, 0), "REFUSED entry(0, 0) = UNKNOWN", "build(0, 0, 0) = 1",
                "REFUSED entry(0, 7) = OUTSIDE", "REFUSED entry(0, -1) = OUTSIDE", "REFUSED entry(0, LEAST) = OUTSIDE",
                "REFUSED entry(0, MOST) = OUTSIDE", "REFUSED entry(1, 0) = UNKNOWN", "REFUSED entry(-1, 0) = UNKNOWN",
                "REFUSED entry(LEAST, 0) = UNKNOWN", "REFUSED entry(MOST, 0) = UNKNOWN", "REFUSED entry(1, 7) = UNKNOWN", "drop(0) = 1",
                "entry(0, 0) = 0", "build(0, 0, 0) = 0", "REFUSED entry(0, 0) = UNKNOWN");
    }

    private static void place() {
        of(29, "Of a PLACE: 0 its kind (0 a run, 3 MAIN, 4 NOTE, 5 PICTURE), 1 its first PAGE, 2 its last, 3 its note (0).",
                Edges.on(0, 0, 0, 0), Edges.on(1, 3, 0, 1), Edges.noteOn(2, 99, 0, 2), Edges.on(3, 5, 0, 3), Edges.on(4, 1, 0, 4),
                Edges.on(24, 2, 0, 5), "build(0, 0, 0) = 1", "place(0, 0, 0) = 0", "place(0, 0, 1) = 0", "place(0, 0, 2) = 0",
                "place(0, 0, 3) = 0", "place(0, 1, 0) = 3", "place(0, 1, 1) = 1", "place(0, 1, 2) = 1", "place(0, 1, 3) = 0",
                "place(0, 2, 0) = 4", "place(0, 2, 1) = 2", "place(0, 2, 2) = 2", "place(0, 2, 3) = 99", "place(0, 3, 0) = 5",
                "place(0, 3, 1) = 3", "place(0, 3, 2) = 3", "place(0, 3, 3) = 0", "place(0, 4, 0) = 0", "place(0, 4, 1) = 4",
                "place(0, 4, 2) = 24", "place(0, 4, 3) = 0", "place(0, 5, 0) = UNKNOWN");
        Edges.of(29, "Of a PLACE: 0 its kind (0 a run, 3 MAIN, 4 NOTE, 5 PICTURE), 1 its first PAGE, 2 its last, 3 its note (0).",
                "HEAD a = 0", "FILL 300", "flow(1) = 10", "mark(0, 1, 0, NONE, NONE, 0) = 0", "mark(300, 2, 0, NONE, NONE, 0) = 1",
                "mark(300, 3, 0, NONE, NONE, 0) = 2", "mark(300, 4, 0, NONE, NONE, 99) = 3", "mark(300, 5, 0, NONE, NONE, 0) = 4",
                "build(0, 0, 0) = 1", "PLACES 0 = R0-299 M299 P299 N299/99", "build(0, 20, 1) = 1", "PLACES 0 = M299 R0-299 P299 N299/99");
        of(29, "Of a PLACE: 0 its kind (0 a run, 3 MAIN, 4 NOTE, 5 PICTURE), 1 its first PAGE, 2 its last, 3 its note (0).",
                allNotes());
        of(29, "UNKNOWN; OUTSIDE.",
                "REFUSED place(0, 0, 0) = UNKNOWN", Edges.on(0, 0, 0, 0), "see(0, 1, 0, false) = 1", "build(0, 0, 0) = 2",
                "REFUSED place(0, 0, 4) = OUTSIDE", "REFUSED place(0, 0, -1) = OUTSIDE", "REFUSED place(0, 0, LEAST) = OUTSIDE",
                "REFUSED place(0, 0, MOST) = OUTSIDE", "REFUSED place(0, 1, 0) = UNKNOWN", "REFUSED place(0, -1, 0) = UNKNOWN",
                "REFUSED place(0, MOST, 0) = UNKNOWN", "REFUSED place(0, LEAST, 0) = UNKNOWN", "REFUSED place(1, 0, 0) = UNKNOWN",
                "REFUSED place(2, 0, 0) = UNKNOWN", "REFUSED place(-1, 0, 0) = UNKNOWN", "REFUSED place(LEAST, 0, 0) = UNKNOWN",
                "REFUSED place(MOST, 0, 0) = UNKNOWN", "REFUSED place(0, 1, 4) = UNKNOWN", "REFUSED place(2, 0, -1) = UNKNOWN");
    }

    /** 50 places of one entry. */
    private static String[] allNotes() {
        List<String> lines = new ArrayList<>();
        for (int m = 0; m < 50; m++) {
            lines.add(Edges.noteOn(m % 25, 99 - m, 0, m));
        }
        lines.addAll(List.of("build(0, 0, 0) = 1", "entry(0, 3) = 50", "place(0, 0, 3) = 74", "place(0, 1, 3) = 99", "place(0, 1, 1) = 0",
                "place(0, 48, 3) = 50", "place(0, 49, 3) = 75", "place(0, 49, 1) = 24", "place(0, 50, 0) = UNKNOWN"));
        return lines.toArray(new String[0]);
    }

    private static void sees() {
        of(30, "Of a SEE of an ENTRY: 0 the HEAD to which it leads, 1 whether it is an ALSO (1, 0), 2 whether it is GOOD (0), LOST (1), ROUND (2).",
                "see(0, 0, 1, false) = 0", "see(0, 1, 0, true) = 1", "see(0, 2, 3, false) = 2", "see(0, 2, 4, true) = 3",
                Edges.on(0, 0, 4, 4), "build(0, 0, 0) = 4", "sees(0, 0, 0) = 1", "sees(0, 0, 1) = 0", "sees(0, 0, 2) = 2",
                "sees(1, 0, 0) = 0", "sees(1, 0, 1) = 1", "sees(1, 0, 2) = 2", "sees(2, 0, 0) = 3", "sees(2, 0, 1) = 0",
                "sees(2, 0, 2) = 1", "sees(2, 1, 0) = 4", "sees(2, 1, 1) = 1", "sees(2, 1, 2) = 0", "entry(2, 5) = 2");
        of(30, "UNKNOWN; OUTSIDE.",
                "REFUSED sees(0, 0, 0) = UNKNOWN", "see(0, 0, 1, false) = 0", Edges.on(0, 0, 1, 1), "build(0, 0, 0) = 2",
                "REFUSED sees(0, 0, 3) = OUTSIDE", "REFUSED sees(0, 0, -1) = OUTSIDE", "REFUSED sees(0, 0, LEAST) = OUTSIDE",
                "REFUSED sees(0, 0, MOST) = OUTSIDE", "REFUSED sees(0, 1, 0) = UNKNOWN", "REFUSED sees(0, -1, 0) = UNKNOWN",
                "REFUSED sees(0, MOST, 0) = UNKNOWN", "REFUSED sees(0, LEAST, 0) = UNKNOWN", "REFUSED sees(1, 0, 0) = UNKNOWN",
                "REFUSED sees(2, 0, 0) = UNKNOWN", "REFUSED sees(-1, 0, 0) = UNKNOWN", "REFUSED sees(LEAST, 0, 0) = UNKNOWN",
                "REFUSED sees(MOST, 0, 0) = UNKNOWN", "REFUSED sees(0, 1, 3) = UNKNOWN", "REFUSED sees(2, 0, -1) = UNKNOWN");
        List<String> lines = new ArrayList<>(List.of("HEADS 30"));
        for (int m = 0; m < 29; m++) {
            lines.add("see(0, 0, " + (29 - m) + ", " + (m % 2 == 0) + ") = " + m);
        }
        lines.addAll(List.of("COUNT 21 see(0, 0, 29, true) = 29", "build(0, 0, 0) = 1", "entry(0, 5) = 29", "sees(0, 0, 0) = 2",
                "sees(0, 0, 1) = 0", "sees(0, 13, 0) = 28", "sees(0, 14, 0) = 1", "sees(0, 14, 1) = 1", "sees(0, 28, 0) = 29",
                "sees(0, 28, 2) = 1", "sees(0, 29, 0) = UNKNOWN", "led(1) = 29"));
        Edges.of(30, "Of a SEE of an ENTRY: 0 the HEAD to which it leads", lines.toArray(new String[0]));
    }

    private static void find() {
        of(31, "The ENTRY of a PATH (b, c NONE as of mark()) in THE INDEX; NONE.",
                "find(0, NONE, NONE) = NONE", "mark(0, 0, 0, 1, 2, 0) = 0", "find(0, 1, 2) = NONE", "build(0, 0, 0) = 3",
                "find(0, NONE, NONE) = 0", "find(0, 1, NONE) = 1", "find(0, 1, 2) = 2", "find(1, NONE, NONE) = NONE",
                "find(0, 2, NONE) = NONE", "find(0, 1, 1) = NONE", "find(1, 2, NONE) = NONE", "find(0, 0, NONE) = NONE",
                "drop(0) = 1", "find(0, 1, 2) = 2", "build(0, 0, 0) = 0", "find(0, 1, 2) = NONE");
        of(31, "UNKNOWN: a HEAD that is looked at",
                "mark(0, 0, 0, 1, 5, 0) = 0", "build(0, 0, 0) = 3", "REFUSED find(6, NONE, NONE) = UNKNOWN", "REFUSED find(-1, NONE, NONE) = UNKNOWN",
                "REFUSED find(NONE, NONE, NONE) = UNKNOWN", "REFUSED find(NONE, 0, 0) = UNKNOWN", "REFUSED find(LEAST, NONE, NONE) = UNKNOWN",
                "REFUSED find(MOST, NONE, NONE) = UNKNOWN", "REFUSED find(0, 6, NONE) = UNKNOWN", "REFUSED find(0, -1, NONE) = UNKNOWN",
                "REFUSED find(0, -8, NONE) = UNKNOWN", "REFUSED find(0, -10, NONE) = UNKNOWN", "REFUSED find(0, 6, 1) = UNKNOWN",
                "REFUSED find(0, 1, 6) = UNKNOWN", "REFUSED find(0, 1, -1) = UNKNOWN", "REFUSED find(0, 1, MOST) = UNKNOWN",
                "find(0, 1, 5) = 2", "meld(5, 4) = 1", "REFUSED find(0, 1, 5) = UNKNOWN", "REFUSED find(0, 5, NONE) = UNKNOWN",
                "REFUSED find(5, NONE, NONE) = UNKNOWN", "find(0, 1, 4) = NONE", "undo() = 39", "find(0, 1, 5) = 2");
        of(31, "STATE.",
                "mark(0, 0, 0, 1, 2, 0) = 0", "build(0, 0, 0) = 3", "REFUSED find(0, NONE, 1) = STATE", "REFUSED find(0, NONE, 0) = STATE",
                "REFUSED find(6, NONE, 1) = UNKNOWN", "REFUSED find(0, NONE, 6) = UNKNOWN", "find(0, 1, NONE) = 1");
    }

    private static void first() {
        String words = "The least ENTRY of one HEAD alone whose signs by which it was sorted (as THE INDEX was built) begin with THE NAME,"
                + " small and great alike; NONE.";
        Edges.of(32, words,
                "HEAD ab = 0", "HEAD ABC = 1", "HEAD abcdefghijklmnop = 2", "HEAD q = 3", "mark(0, 0, 0, 3, NONE, 0) = 0",
                "mark(0, 0, 1, 0, NONE, 0) = 1", "mark(0, 0, 2, 2, NONE, 0) = 2", "NAME a", "first() = NONE", "build(0, 0, 0) = 6",
                "PATHS = 0 0.3 1 1.0 2 2.2", "first() = 0", "NAME AB", "first() = 0", "NAME aBc", "first() = 2", "NAME abcd", "first() = 4",
                "NAME ABCDEFGHIJKLMNOP", "first() = 4", "NAME ABCDEFGHIJKLMNOQ", "first() = NONE", "NAME b", "first() = NONE",
                "NAME q", "first() = NONE");
        Edges.of(32, words,
                "HEAD a@[ = 0", "HEAD A`{ = 1", "HEAD az = 2", "HEAD a z = 3", "mark(0, 0, 0, NONE, NONE, 0) = 0",
                "mark(0, 0, 1, NONE, NONE, 0) = 1", "mark(0, 0, 2, NONE, NONE, 0) = 2", "mark(0, 0, 3, NONE, NONE, 0) = 3",
                "build(1, 0, 0) = 4", "PATHS = 3 0 1 2", "NAME A@", "first() = 1", "NAME a`", "first() = 2", "NAME a@{", "first() = NONE",
                "NAME a`[", "first() = NONE", "NAME AZ", "first() = 3", "NAME A ", "first() = 0", "NAME  a", "first() = NONE", "NAME A Z",
                "first() = 0", "NAME A Z ", "first() = NONE");
        Edges.of(32, words,
                "HEAD the ox = 0", "HEAD b = 1", "PASS the = 1", "SORT 1 The Yak", "mark(0, 0, 0, NONE, NONE, 0) = 0",
                "mark(0, 0, 1, NONE, NONE, 0) = 1", "build(0, 0, 0) = 2", "PATHS = 0 1", "NAME ox", "first() = NONE", "NAME the", "first() = 0",
                "NAME the y", "first() = 1", "NAME b", "first() = NONE", "NAME the ox", "sortAs(1) = 1", "first() = 0", "NAME the y",
                "first() = 1", "meld(1, 0) = 1", "first() = 1", "build(0, 0, 0) = 1", "first() = NONE");
    }

    private static void firstSorted() {
        Edges.of(32, "whose signs by which it was sorted (as THE INDEX was built) begin with THE NAME",
                "HEADS 30", "SORT 0 q", "SORT 29 qq", "mark(0, 0, 0, NONE, NONE, 0) = 0", "mark(0, 0, 29, NONE, NONE, 0) = 1", "build(0, 0, 0) = 2",
                "PATHS = 0 29", "NAME Q", "first() = 0", "NAME QQ", "first() = 1", "NAME a", "first() = NONE", "NAME z", "first() = NONE",
                "unname() = 1", "sortAs(0) = 1", "NAME q", "first() = 0", "build(0, 0, 0) = 2", "first() = 1", "NAME a", "first() = 0");
    }

    private static void firstRefused() {
        Edges.of(32, "STATE: THE NAME has nothing.",
                "REFUSED first() = STATE", "HEAD a = 0", "mark(0, 0, 0, NONE, NONE, 0) = 0", "build(0, 0, 0) = 1", "first() = 0",
                "unname() = 1", "REFUSED first() = STATE", "NAME  ", "first() = NONE");
    }

    private static void unmatched() {
        of(33, "How many UNMATCHED MARKS there were as THE INDEX was built.",
                "unmatched() = 0", "build(0, 0, 0) = 0", "unmatched() = 0", Edges.on(0, 1, 0, 0), "unmatched() = 0", "build(0, 0, 0) = 1",
                "unmatched() = 1", Edges.on(1, 2, 0, 1), "unmatched() = 1", "build(0, 0, 0) = 1", "unmatched() = 0", "drop(0) = 1",
                "unmatched() = 0", "build(0, 0, 0) = 1", "unmatched() = 1", "drop(1) = 1", "unmatched() = 1", "build(0, 0, 0) = 0",
                "unmatched() = 0");
        of(33, "How many UNMATCHED MARKS there were as THE INDEX was built.",
                "COUNT 25 mark(5, 1, 0, NONE, NONE, 0) = 0", "COUNT 25 mark(4, 2, 1, NONE, NONE, 0) = 25", "build(0, 0, 0) = 2",
                "unmatched() = 50", "unmatchedAt(0) = 0", "unmatchedAt(49) = 49", "unmatchedAt(50) = UNKNOWN", "PLACES 0 = R2-2",
                "PLACES 1 = R1-1");
    }

    private static void unmatchedAt() {
        of(34, "The i-th of them, by numbers.",
                "mark(9, 1, 2, NONE, NONE, 0) = 0", "mark(7, 2, 0, NONE, NONE, 0) = 1", "mark(8, 0, 0, NONE, NONE, 0) = 2",
                "mark(2, 1, 1, NONE, NONE, 0) = 3", "mark(1, 2, 1, NONE, NONE, 0) = 4", "build(0, 0, 0) = 3", "UNMATCHED = 0 1 3 4");
        of(34, "UNKNOWN.",
                "REFUSED unmatchedAt(0) = UNKNOWN", "mark(9, 1, 2, NONE, NONE, 0) = 0", "REFUSED unmatchedAt(0) = UNKNOWN",
                "build(0, 0, 0) = 1", "unmatchedAt(0) = 0", "REFUSED unmatchedAt(1) = UNKNOWN", "REFUSED unmatchedAt(-1) = UNKNOWN",
                "REFUSED unmatchedAt(LEAST) = UNKNOWN", "REFUSED unmatchedAt(MOST) = UNKNOWN", "drop(0) = 1", "unmatchedAt(0) = 0",
                "build(0, 0, 0) = 0", "REFUSED unmatchedAt(0) = UNKNOWN");
    }

    private static void led() {
        of(35, "How many SEES, ALSOS of THE INDEX are GOOD (0), LOST (1), ROUND (2).",
                "led(0) = 0", "led(1) = 0", "led(2) = 0", "see(0, 0, 1, false) = 0", "see(0, 0, 1, true) = 1", "see(0, 0, 1, false) = 2",
                "led(1) = 0", "build(0, 0, 0) = 1", "led(0) = 0", "led(1) = 1", "led(2) = 0", "see(0, 1, 0, true) = 3", "build(0, 0, 0) = 2",
                "led(0) = 0", "led(1) = 0", "led(2) = 2", Edges.on(0, 5, 0, 4), "led(0) = 0", "build(0, 0, 0) = 2", "led(0) = 2",
                "led(1) = 0", "led(2) = 0");
        of(35, "OUTSIDE.",
                "REFUSED led(-1) = OUTSIDE", "REFUSED led(3) = OUTSIDE", "REFUSED led(LEAST) = OUTSIDE", "REFUSED led(MOST) = OUTSIDE",
                "see(0, 0, 1, false) = 0", "build(0, 0, 0) = 1", "REFUSED led(3) = OUTSIDE", "REFUSED led(-1) = OUTSIDE");
    }

    /** 50 sees that are unlike all. */
    private static void allSees() {
        List<String> lines = new ArrayList<>(List.of("HEADS 30"));
        for (int m = 0; m < 50; m++) {
            lines.add("see(0, " + m / 25 + ", " + (29 - m % 25) + ", " + (m % 2 == 0) + ") = " + m);
        }
        lines.addAll(List.of("build(0, 0, 0) = 2", "entry(0, 5) = 25", "entry(1, 5) = 25", "sees(0, 24, 0) = 29", "sees(0, 25, 0) = UNKNOWN",
                "sees(1, 0, 0) = 5", "sees(1, 0, 1) = 0", "sees(1, 24, 0) = 28", "sees(1, 24, 1) = 1", "sees(1, 25, 0) = UNKNOWN", "led(0) = 0",
                "led(1) = 50", "led(2) = 0", "changed() = 2", "build(0, 0, 0) = 2", "changed() = 0"));
        Edges.of(35, "How many SEES, ALSOS of THE INDEX are GOOD (0), LOST (1), ROUND (2).", lines.toArray(new String[0]));
    }

    private static void changed() {
        String words = "How many ENTRIES of THE INDEX as it was built ahead of this (nothing ahead of the first) and of this one became other ones:"
                + " of PATHS that just one has";
        of(36, words, "changed() = 0", "mark(2, 0, 0, 1, 2, 0) = 0", "changed() = 0", "build(0, 0, 0) = 3", "changed() = 3",
                "changed() = 3", "build(0, 0, 0) = 3", "changed() = 0", "mark(2, 0, 0, 1, 3, 0) = 1", "changed() = 0", "build(0, 0, 0) = 4",
                "changed() = 1", "drop(0) = 1", "drop(1) = 1", "build(0, 0, 0) = 0", "changed() = 4", "build(0, 0, 0) = 0", "changed() = 0",
                "undo() = 39", "build(0, 0, 0) = 3", "changed() = 3", "meld(3, 2) = 1", "build(0, 0, 0) = 3", "changed() = 2");
        of(36, words, "build(0, 0, 0) = 0", "changed() = 0", Edges.on(0, 0, 0, 0), "build(0, 0, 0) = 1", "changed() = 1",
                "build(2, 0, 0) = OUTSIDE", "changed() = 1", "NAME zz", "rename(0) = 1", "build(1, 0, 0) = 1", "changed() = 0");
    }

    private static void changedPlaces() {
        String words = "or whose PLACES (or their order)";
        of(36, words, Edges.on(4, 0, 0, 0), Edges.on(4, 0, 1, 1), "build(0, 0, 0) = 2", Edges.on(3, 0, 0, 2), "build(0, 0, 0) = 2",
                "changed() = 1", Edges.on(3, 0, 0, 3), "build(0, 0, 0) = 2", "changed() = 0", "build(0, 1, 0) = 2", "PLACES 0 = R3-4",
                "changed() = 1", "build(0, 2, 0) = 2", "changed() = 0", "flow(1) = 2", "build(0, 2, 0) = 2", "changed() = 2");
        of(36, words, Edges.on(4, 3, 0, 0), Edges.on(3, 0, 0, 1), Edges.on(2, 3, 1, 2), Edges.on(3, 0, 1, 3), "build(0, 0, 0) = 2",
                "build(0, 0, 1) = 2", "changed() = 1", "build(0, 0, 1) = 2", "changed() = 0", "build(0, 0, 0) = 2", "changed() = 1");
        of(36, words, Edges.noteOn(4, 8, 0, 0), "build(0, 0, 0) = 1", "drop(0) = 1", Edges.noteOn(4, 9, 0, 1), "build(0, 0, 0) = 1",
                "changed() = 1", "drop(1) = 1", Edges.on(4, 5, 0, 2), "build(0, 0, 0) = 1", "changed() = 1", "drop(2) = 1",
                Edges.on(4, 3, 0, 3), "build(0, 0, 0) = 1", "changed() = 1", "drop(3) = 1", Edges.on(4, 1, 0, 4), "build(0, 0, 0) = 1",
                "changed() = 1", Edges.on(6, 2, 0, 5), "build(0, 0, 0) = 1", "changed() = 1", "drop(4) = 1", Edges.on(3, 1, 0, 6),
                "build(0, 0, 0) = 1", "PLACES 0 = R3-6", "changed() = 1", "drop(6) = 1", "drop(5) = 1", "see(0, 0, 1, true) = 7",
                "build(0, 0, 0) = 1", "changed() = 1", "drop(7) = 1", Edges.on(3, 0, 0, 8), "build(0, 0, 0) = 1", "changed() = 1");
    }

    /** What is not alike is the last of several, or is there no more. */
    private static void changedLast() {
        String words = "or whose PLACES (or their order) or SEES (but for what is GOOD) are not alike in both.";
        of(36, words, Edges.on(1, 0, 0, 0), Edges.on(3, 0, 0, 1), "build(0, 0, 0) = 1", "drop(1) = 1", "build(0, 0, 0) = 1", "changed() = 1",
                "undo() = 39", "build(0, 0, 0) = 1", "changed() = 1", Edges.on(3, 3, 0, 2), "build(0, 0, 0) = 1", "changed() = 1", "drop(2) = 1",
                "drop(1) = 1", Edges.on(4, 0, 0, 3), "build(0, 0, 0) = 1", "changed() = 1", "PLACES 0 = R1-1 R4-4");
        of(36, words, "see(0, 0, 1, false) = 0", "see(0, 2, 1, false) = 1", "see(0, 2, 3, false) = 2", "build(0, 0, 0) = 2", "drop(2) = 1",
                "build(0, 0, 0) = 2", "changed() = 1", "undo() = 39", "build(0, 0, 0) = 2", "changed() = 1", "drop(2) = 1", "see(0, 2, 4, false) = 3",
                "build(0, 0, 0) = 2", "changed() = 1", "SEES 1 = see1/lost see4/lost", "drop(3) = 1", "see(0, 2, 4, true) = 4",
                "build(0, 0, 0) = 2", "changed() = 1", "SEES 1 = see1/lost also4/lost", "build(0, 0, 0) = 2", "changed() = 0");
    }

    private static void changedSees() {
        String words = "or SEES (but for what is GOOD) are not alike in both.";
        of(36, words, "see(0, 0, 1, false) = 0", "build(0, 0, 0) = 1", "SEES 0 = see1/lost", Edges.on(0, 0, 1, 1), "build(0, 0, 0) = 2",
                "SEES 0 = see1/good", "changed() = 1", "drop(1) = 1", "see(0, 1, 0, false) = 2", "build(0, 0, 0) = 2",
                "SEES 0 = see1/round", "changed() = 1", "drop(2) = 1", "build(0, 0, 0) = 1", "SEES 0 = see1/lost", "changed() = 1");
        of(36, words, "see(0, 0, 1, false) = 0", "build(0, 0, 0) = 1", "see(0, 0, 1, true) = 1", "build(0, 0, 0) = 1", "changed() = 0",
                "drop(0) = 1", "build(0, 0, 0) = 1", "SEES 0 = also1/lost", "changed() = 1", "see(0, 0, 2, true) = 2", "build(0, 0, 0) = 1",
                "changed() = 1", "drop(1) = 1", "see(0, 0, 3, true) = 3", "build(0, 0, 0) = 1", "changed() = 1", "drop(2) = 1",
                "build(0, 0, 0) = 1", "changed() = 1", "SEES 0 = also3/lost", "meld(3, 4) = 1", "build(0, 0, 0) = 1", "changed() = 1",
                "SEES 0 = also4/lost", "NAME zz", "rename(4) = 1", "build(1, 1, 1) = 1", "changed() = 0");
        of(36, words, "see(0, 0, 1, false) = 0", "build(0, 0, 0) = 1", "mark(0, 0, 0, 2, NONE, 0) = 1", "build(0, 0, 0) = 2",
                "SEES 0 = also1/lost", "changed() = 2", "mark(0, 0, 0, 3, NONE, 0) = 2", "build(0, 0, 0) = 3", "changed() = 1");
    }

    private static void shorten() {
        Edges.of(37, "How many digits of a whole b, the last ones, are told behind a: by rule 0 all",
                "shorten(1, 1, 0) = 1", "shorten(9, 9, 0) = 1", "shorten(9, 10, 0) = 2", "shorten(1, 99, 0) = 2", "shorten(1, 100, 0) = 3",
                "shorten(1, 999, 0) = 3", "shorten(1, 1000, 0) = 4", "shorten(1, 9999, 0) = 4", "shorten(1, 10000, 0) = 5",
                "shorten(1, 99999, 0) = 5", "shorten(1, 100000, 0) = 6", "shorten(1, 999999, 0) = 6", "shorten(999999, 999999, 0) = 6");
        Edges.of(37, "by 1, if it has as many as a, all but the first ones that are alike in both, one at least; else all",
                "shorten(1, 1, 1) = 1", "shorten(1, 9, 1) = 1", "shorten(9, 10, 1) = 2", "shorten(99, 100, 1) = 3", "shorten(10, 99, 1) = 2",
                "shorten(10, 19, 1) = 1", "shorten(999999, 999999, 1) = 1", "shorten(999998, 999999, 1) = 1", "shorten(999989, 999999, 1) = 2",
                "shorten(999899, 999999, 1) = 3", "shorten(998999, 999999, 1) = 4", "shorten(989999, 999999, 1) = 5",
                "shorten(899999, 999999, 1) = 6", "shorten(99999, 100000, 1) = 6", "shorten(100009, 100019, 1) = 2", "shorten(12345, 12345, 1) = 1",
                "shorten(1, 100001, 1) = 6");
        Edges.of(37, "by 2 likewise, but two at least (one, if it has no more).",
                "shorten(1, 1, 2) = 1", "shorten(1, 9, 2) = 1", "shorten(9, 10, 2) = 2", "shorten(10, 10, 2) = 2", "shorten(10, 11, 2) = 2",
                "shorten(99, 100, 2) = 3", "shorten(100, 100, 2) = 2", "shorten(100, 101, 2) = 2", "shorten(100, 110, 2) = 2",
                "shorten(100, 200, 2) = 3", "shorten(999999, 999999, 2) = 2", "shorten(999899, 999999, 2) = 3", "shorten(899999, 999999, 2) = 6");
    }

    private static void shortenOutside() {
        Edges.of(37, "OUTSIDE: rule, a is not 1 .. 999999, b is not a .. 999999.",
                "REFUSED shorten(1, 1, -1) = OUTSIDE", "REFUSED shorten(1, 1, 3) = OUTSIDE", "REFUSED shorten(1, 1, LEAST) = OUTSIDE",
                "REFUSED shorten(1, 1, MOST) = OUTSIDE", "REFUSED shorten(0, 1, 0) = OUTSIDE", "REFUSED shorten(0, 0, 1) = OUTSIDE",
                "REFUSED shorten(-1, 1, 2) = OUTSIDE", "REFUSED shorten(1000000, 1000000, 0) = OUTSIDE", "REFUSED shorten(MOST, MOST, 1) = OUTSIDE",
                "REFUSED shorten(LEAST, 1, 1) = OUTSIDE", "REFUSED shorten(2, 1, 0) = OUTSIDE", "REFUSED shorten(999999, 999998, 1) = OUTSIDE",
                "REFUSED shorten(1, 1000000, 0) = OUTSIDE", "REFUSED shorten(999999, 1000000, 2) = OUTSIDE", "REFUSED shorten(1, 0, 0) = OUTSIDE",
                "REFUSED shorten(1, LEAST, 0) = OUTSIDE", "REFUSED shorten(1, MOST, 0) = OUTSIDE");
    }

    private static void unfold() {
        Edges.of(38, "s itself, if it is not below a",
                "unfold(1, 1, 1) = 1", "unfold(1, 1, 6) = 1", "unfold(123, 123, 3) = 123", "unfold(123, 124, 3) = 124", "unfold(123, 124, 6) = 124",
                "unfold(123, 1000, 4) = 1000", "unfold(999999, 999999, 6) = 999999", "unfold(1, 999999, 6) = 999999", "unfold(5, 9, 1) = 9",
                "unfold(9, 10, 2) = 10");
        Edges.of(38, "else a, its last digits, so many, being those of s (0s ahead of it)",
                "unfold(123, 3, 1) = 123", "unfold(123, 9, 1) = 129", "unfold(123, 23, 2) = 123", "unfold(123, 99, 2) = 199",
                "unfold(103, 4, 2) = 104", "unfold(1003, 4, 3) = 1004", "unfold(10, 0, 1) = 10", "unfold(100, 0, 2) = 100",
                "unfold(100000, 0, 5) = 100000", "unfold(100000, 0, 1) = 100000", "unfold(100000, 99999, 5) = 199999",
                "unfold(999999, 9, 1) = 999999", "unfold(999999, 99999, 5) = 999999", "unfold(999990, 9, 1) = 999999",
                "unfold(123456, 457, 3) = 123457");
    }

    private static void unfoldOutside() {
        Edges.of(38, "OUTSIDE: a is not 1 .. 999999; s is not 0 .. 999999; digits is not 1 .. 6, or s has more",
                "REFUSED unfold(0, 0, 1) = OUTSIDE", "REFUSED unfold(0, 1, 1) = OUTSIDE", "REFUSED unfold(-1, 1, 1) = OUTSIDE",
                "REFUSED unfold(1000000, 1, 1) = OUTSIDE", "REFUSED unfold(LEAST, 1, 1) = OUTSIDE", "REFUSED unfold(MOST, 1, 1) = OUTSIDE",
                "REFUSED unfold(1, -1, 1) = OUTSIDE", "REFUSED unfold(1, 1000000, 6) = OUTSIDE", "REFUSED unfold(1, LEAST, 1) = OUTSIDE",
                "REFUSED unfold(1, MOST, 6) = OUTSIDE", "unfold(10, 0, 1) = 10", "unfold(1, 999999, 6) = 999999");
        Edges.of(38, "OUTSIDE: a is not 1 .. 999999; s is not 0 .. 999999; digits is not 1 .. 6, or s has more",
                "REFUSED unfold(1, 1, 0) = OUTSIDE", "REFUSED unfold(1, 0, 0) = OUTSIDE", "REFUSED unfold(1, 1, 7) = OUTSIDE",
                "REFUSED unfold(1, 1, -1) = OUTSIDE", "REFUSED unfold(1, 1, LEAST) = OUTSIDE", "REFUSED unfold(1, 1, MOST) = OUTSIDE",
                "REFUSED unfold(1, 10, 1) = OUTSIDE", "REFUSED unfold(1, 100, 2) = OUTSIDE", "REFUSED unfold(1, 1000, 3) = OUTSIDE",
                "REFUSED unfold(1, 10000, 4) = OUTSIDE", "REFUSED unfold(1, 100000, 5) = OUTSIDE", "REFUSED unfold(200, 100, 2) = OUTSIDE",
                "unfold(1, 9, 1) = 9", "unfold(1, 99, 2) = 99", "unfold(1, 999, 3) = 999", "unfold(1, 9999, 4) = 9999",
                "unfold(1, 99999, 5) = 99999", "unfold(1, 100000, 6) = 100000");
    }

    private static void unfoldState() {
        Edges.of(38, "STATE: what that is is below a.",
                "REFUSED unfold(123, 2, 1) = STATE", "REFUSED unfold(123, 22, 2) = STATE", "REFUSED unfold(123, 122, 3) = STATE",
                "REFUSED unfold(123, 9, 2) = STATE", "REFUSED unfold(123, 9, 6) = STATE", "REFUSED unfold(1, 0, 1) = STATE",
                "REFUSED unfold(1, 0, 6) = STATE", "REFUSED unfold(999999, 0, 1) = STATE", "REFUSED unfold(999999, 999998, 6) = STATE",
                "REFUSED unfold(100000, 99999, 6) = STATE", "REFUSED unfold(5, 4, 2) = STATE", "unfold(123, 3, 1) = 123",
                "REFUSED unfold(100001, 0, 5) = STATE", "unfold(100001, 1, 5) = 100001");
    }
}
