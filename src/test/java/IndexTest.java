/** Promises 27 to 38: the index, its places and sees, what has changed, numbers told short. */
public final class IndexTest {
    /** Six heads a to f, and 40 words, two on a page. */
    private static final String[] BOOK = {"HEAD a = 0", "HEAD b = 1", "HEAD c = 2", "HEAD d = 3", "HEAD e = 4",
            "HEAD f = 5", "FILL 40", "flow(2) = 10"};

    public static void main(String[] args) {
        build();
        entries();
        entryOrder();
        placeKinds();
        runs();
        runsByGaps();
        runsThatGo();
        near();
        chief();
        placeRefused();
        sees();
        ledGood();
        ledRound();
        find();
        first();
        unmatched();
        changed();
        changedPlacesAndSees();
        stays();
        shorten();
        unfold();
        Calls.end();
    }

    private static void run(String title, String... lines) {
        String[] all = java.util.Arrays.copyOf(BOOK, BOOK.length + lines.length);
        System.arraycopy(lines, 0, all, BOOK.length, lines.length);
        Calls.run(title, all);
    }

    /** A mark at the last gap of a page, by which it is easy to see what page a place has. */
    private static String on(int page, int kind, int head, int number) {
        return "mark(" + (2 * page + 2) + ", " + kind + ", " + head + ", NONE, NONE, 0) = " + number;
    }

    private static void build() {
        run("27 build",
                "build(0, 0, 0) = 0", "PATHS = ", on(0, 0, 0, 0), "PATHS = ", "build(0, 0, 0) = 1", "build(1, 20, 1) = 1",
                "REFUSED build(-1, 0, 0) = OUTSIDE", "REFUSED build(2, 0, 0) = OUTSIDE", "REFUSED build(0, -1, 0) = OUTSIDE",
                "REFUSED build(0, 21, 0) = OUTSIDE", "REFUSED build(0, 0, -1) = OUTSIDE", "REFUSED build(0, 0, 2) = OUTSIDE",
                "PATHS = 0");
    }

    private static void entries() {
        run("27, 28 an entry for each path, for those with which it begins, for heads from which sees lead",
                "mark(0, 0, 2, 1, 0, 0) = 0", "mark(0, 0, 2, 1, 0, 0) = 1", "mark(0, 0, 2, 3, NONE, 0) = 2",
                "mark(0, 0, 0, 0, 0, 0) = 3", "see(0, 5, 4, false) = 4", "see(0, 2, 4, true) = 5",
                "build(0, 0, 0) = 8", "PATHS = 0 0.0 0.0.0 2 2.1 2.1.0 2.3 5",
                "entry(3, 0) = 2", "entry(3, 1) = NONE", "entry(3, 2) = NONE", "entry(3, 3) = 0", "entry(3, 4) = 2",
                "entry(3, 5) = 1", "entry(3, 6) = 1", "entry(4, 4) = 1", "entry(5, 0) = 2", "entry(5, 1) = 1",
                "entry(5, 2) = 0", "entry(5, 3) = 1", "entry(5, 4) = 0", "entry(5, 5) = 0", "entry(5, 6) = 3",
                "entry(0, 4) = 1", "entry(7, 4) = 0", "entry(7, 3) = 0", "entry(7, 5) = 1",
                "entry(8, 0) = UNKNOWN", "entry(-1, 0) = UNKNOWN", "entry(8, 7) = UNKNOWN", "entry(0, 7) = OUTSIDE",
                "entry(0, -1) = OUTSIDE");
    }

    private static void entryOrder() {
        Calls.run("28 entries are in the order of keys",
                "HEAD new york = 0", "HEAD newark = 1", "HEAD a10 = 2", "HEAD a9 = 3", "HEAD the ant = 4", "SORT 1 zz",
                "PASS the = 1", "mark(0, 0, 0, NONE, NONE, 0) = 0", "mark(0, 0, 1, 2, NONE, 0) = 1",
                "mark(0, 0, 1, 3, NONE, 0) = 2", "mark(0, 0, 4, NONE, NONE, 0) = 3", "mark(0, 0, 3, NONE, NONE, 0) = 4",
                "mark(0, 0, 1, 3, 4, 0) = 5", "mark(0, 0, 1, 4, NONE, 0) = 6",
                "build(0, 0, 0) = 8", "PATHS = 3 4 0 1 1.3 1.3.4 1.2 1.4", "unname() = 3", "sortAs(1) = 1",
                "build(0, 0, 0) = 8", "PATHS = 3 4 1 1.3 1.3.4 1.2 1.4 0",
                "build(1, 0, 0) = 8", "PATHS = 3 4 0 1 1.3 1.3.4 1.2 1.4");
        Calls.run("28 entries are in another order when heads are",
                "HEAD a = 0", "HEAD b = 1", "mark(0, 0, 0, NONE, NONE, 0) = 0", "mark(0, 0, 1, NONE, NONE, 0) = 1",
                "build(0, 0, 0) = 2", "PATHS = 0 1", "NAME z", "rename(0) = 1", "build(0, 0, 0) = 2", "PATHS = 1 0",
                "SORT 0 A", "build(0, 0, 0) = 2", "PATHS = 0 1", "first() = 0", "NAME z", "first() = NONE");
    }

    private static void placeKinds() {
        run("29 place: mains, runs, pictures, notes of one page, each once",
                "mark(3, 4, 0, NONE, NONE, 9) = 0", "mark(4, 4, 0, NONE, NONE, 2) = 1", "mark(3, 5, 0, NONE, NONE, 0) = 2",
                "mark(4, 5, 0, NONE, NONE, 0) = 3", "mark(3, 4, 0, NONE, NONE, 9) = 4", "mark(3, 3, 0, NONE, NONE, 0) = 5",
                "mark(4, 3, 0, NONE, NONE, 0) = 6", "mark(3, 1, 0, NONE, NONE, 0) = 7", "mark(6, 2, 0, NONE, NONE, 0) = 8",
                "mark(2, 0, 0, NONE, NONE, 0) = 9", "mark(3, 5, 0, 1, NONE, 0) = 10",
                "build(0, 0, 0) = 2", "PLACES 0 = R0-0 M1 R1-2 P1 N1/2 N1/9", "PLACES 1 = P1",
                "place(0, 4, 0) = 4", "place(0, 4, 1) = 1", "place(0, 4, 2) = 1", "place(0, 4, 3) = 2",
                "place(0, 2, 0) = 0", "place(0, 2, 2) = 2", "place(0, 1, 0) = 3", "place(0, 3, 0) = 5", "place(0, 3, 3) = 0");
    }

    private static void runs() {
        run("29 place: an OPEN and the next CLOSE behind it, by gaps, then numbers, with no OPEN between",
                "mark(10, 2, 0, NONE, NONE, 0) = 0", "mark(4, 1, 0, NONE, NONE, 0) = 1", "mark(14, 1, 0, NONE, NONE, 0) = 2",
                "mark(18, 1, 0, NONE, NONE, 0) = 3", "mark(22, 2, 0, NONE, NONE, 0) = 4", "mark(26, 2, 0, NONE, NONE, 0) = 5",
                "build(0, 0, 0) = 1", "PLACES 0 = R1-4 R6-6 R8-10 R12-12", "UNMATCHED = 2 5");
        run("29 place: an OPEN and a CLOSE at one gap",
                "mark(4, 1, 0, NONE, NONE, 0) = 0", "mark(4, 2, 0, NONE, NONE, 0) = 1", "mark(8, 2, 0, NONE, NONE, 0) = 2",
                "mark(8, 1, 0, NONE, NONE, 0) = 3", "mark(12, 2, 0, NONE, NONE, 0) = 4", "mark(6, 2, 0, 1, NONE, 0) = 5",
                "mark(2, 1, 1, NONE, NONE, 0) = 6",
                "build(0, 0, 0) = 3", "PLACES 0 = R1-1 R3-5", "UNMATCHED = 2 5 6", "PLACES 1 = R2-2", "PLACES 2 = R0-0");
    }

    private static void runsByGaps() {
        run("29 place: marks are taken by gaps, whatever their numbers are",
                "mark(30, 2, 0, NONE, NONE, 0) = 0", "mark(26, 1, 0, NONE, NONE, 0) = 1", "mark(10, 2, 0, NONE, NONE, 0) = 2",
                "mark(16, 1, 0, NONE, NONE, 0) = 3", "mark(20, 2, 0, NONE, NONE, 0) = 4", "mark(4, 1, 0, NONE, NONE, 0) = 5",
                "build(0, 0, 0) = 1", "PLACES 0 = R1-4 R7-9 R12-14", "UNMATCHED = ", "build(0, 0, 0) = 1",
                "PLACES 0 = R1-4 R7-9 R12-14");
        run("29 place: an OPEN of no run comes ahead of the POINTS behind it",
                on(2, 1, 0, 0), on(4, 0, 0, 1), on(5, 0, 0, 2), on(6, 1, 0, 3), on(8, 2, 0, 4), on(9, 1, 0, 5), on(10, 0, 0, 6),
                "build(0, 0, 0) = 1", "PLACES 0 = R2-2 R4-4 R5-5 R6-8 R9-9 R10-10", "UNMATCHED = 0 5");
        run("29 place: an OPEN of one entry and a CLOSE of another make no run",
                on(2, 1, 0, 0), on(4, 2, 1, 1), on(5, 0, 1, 2), "build(0, 0, 0) = 2", "PLACES 0 = R2-2", "PLACES 1 = R4-4 R5-5",
                "UNMATCHED = 0 1");
    }

    private static void runsThatGo() {
        run("29 place: like runs, runs within others, a run of one page with a MAIN there",
                on(3, 1, 0, 0), on(7, 2, 0, 1), on(3, 0, 0, 2), on(7, 0, 0, 3), on(5, 0, 0, 4), on(8, 0, 0, 5),
                on(8, 0, 0, 6), on(2, 0, 0, 7), on(2, 3, 0, 8), on(4, 3, 0, 9), on(9, 3, 0, 10), on(10, 1, 0, 11),
                on(12, 2, 0, 12), on(11, 3, 0, 13), on(2, 3, 1, 14), on(1, 0, 1, 15),
                "build(0, 0, 0) = 2", "PLACES 0 = M2 R3-7 M4 R8-8 M9 R10-12 M11", "PLACES 1 = R1-1 M2");
        run("29 place: runs that share pages stay, runs within a longer one with the same end go",
                on(2, 1, 0, 0), on(6, 2, 0, 1), "mark(14, 1, 0, NONE, NONE, 0) = 2", "mark(20, 2, 0, NONE, NONE, 0) = 3",
                "build(0, 0, 0) = 1", "PLACES 0 = R2-6 R6-9");
        run("29 place: a run of one page from an OPEN to a CLOSE goes too if a MAIN is there",
                "mark(5, 1, 0, NONE, NONE, 0) = 0", "mark(6, 2, 0, NONE, NONE, 0) = 1", "mark(6, 3, 0, NONE, NONE, 0) = 2",
                "build(0, 0, 0) = 1", "PLACES 0 = M2", "UNMATCHED = ");
    }

    private static void near() {
        run("27 build: runs melted by nearness",
                on(0, 0, 0, 0), on(1, 0, 0, 1), on(3, 0, 0, 2), on(6, 0, 0, 3), on(10, 1, 0, 4), on(12, 2, 0, 5),
                on(13, 0, 0, 6), on(2, 3, 0, 7), on(9, 5, 0, 8),
                "build(0, 0, 0) = 1", "PLACES 0 = R0-0 R1-1 M2 R3-3 R6-6 P9 R10-12 R13-13",
                "build(0, 1, 0) = 1", "PLACES 0 = R0-1 M2 R3-3 R6-6 P9 R10-13",
                "build(0, 2, 0) = 1", "PLACES 0 = R0-3 M2 R6-6 P9 R10-13",
                "build(0, 3, 0) = 1", "PLACES 0 = R0-6 M2 P9 R10-13",
                "build(0, 20, 0) = 1", "PLACES 0 = R0-13 M2 P9");
        run("27 build: a run of one page that a MAIN sends away melts nothing",
                on(0, 0, 0, 0), on(1, 0, 0, 1), on(2, 0, 0, 2), on(1, 3, 0, 3),
                "build(0, 1, 0) = 1", "PLACES 0 = R0-0 M1 R2-2", "build(0, 2, 0) = 1", "PLACES 0 = R0-2 M1");
        run("27 build: runs that share pages melt by any nearness",
                "mark(4, 1, 0, NONE, NONE, 0) = 0", "mark(9, 2, 0, NONE, NONE, 0) = 1", "mark(10, 1, 0, NONE, NONE, 0) = 2",
                "mark(15, 2, 0, NONE, NONE, 0) = 3", "build(0, 0, 0) = 1", "PLACES 0 = R1-4 R4-7",
                "build(0, 1, 0) = 1", "PLACES 0 = R1-7");
    }

    private static void chief() {
        run("27 build: all MAINS ahead",
                on(7, 3, 0, 0), on(1, 0, 0, 1), on(5, 3, 0, 2), on(5, 5, 0, 3), on(7, 4, 1, 0).replace("0) = 0", "8) = 4"),
                on(3, 0, 1, 5), "build(0, 0, 1) = 2", "PLACES 0 = M5 M7 R1-1 P5", "PLACES 1 = R3-3 N7/8",
                "build(0, 0, 0) = 2", "PLACES 0 = R1-1 M5 P5 M7");
    }

    private static void placeRefused() {
        run("29 place, 30 sees: refused",
                on(0, 0, 0, 0), "see(0, 0, 1, true) = 1", "build(0, 0, 0) = 1",
                "place(1, 0, 0) = UNKNOWN", "place(-1, 0, 0) = UNKNOWN", "place(0, 1, 0) = UNKNOWN", "place(0, -1, 0) = UNKNOWN",
                "place(0, 1, 9) = UNKNOWN", "place(0, 0, 4) = OUTSIDE", "place(0, 0, -1) = OUTSIDE", "place(0, 0, 3) = 0",
                "place(MOST, MOST, 0) = UNKNOWN",
                "sees(1, 0, 0) = UNKNOWN", "sees(-1, 0, 0) = UNKNOWN", "sees(0, 1, 0) = UNKNOWN", "sees(0, -1, 0) = UNKNOWN",
                "sees(0, 1, 9) = UNKNOWN", "sees(0, 0, 3) = OUTSIDE", "sees(0, 0, -1) = OUTSIDE", "sees(0, 0, 0) = 1",
                "sees(MOST, MOST, 0) = UNKNOWN", "place(0, 0, MOST) = OUTSIDE", "sees(0, 0, LEAST) = OUTSIDE");
    }

    private static void sees() {
        run("30 sees: SEES then ALSOS, by keys, each once, of both as of a SEE",
                "see(0, 0, 3, true) = 0", "see(0, 0, 5, false) = 1", "see(0, 0, 2, false) = 2", "see(0, 0, 1, true) = 3",
                "see(3, 0, 2, true) = 4", "see(3, 0, 2, false) = 5", "see(3, 0, 1, true) = 6", "see(3, 1, 0, false) = 7",
                "build(0, 0, 0) = 2", "SEES 0 = see2/lost see5/lost also1/lost also3/lost", "SEES 1 = see0/lost",
                "SORT 5 0", "build(0, 0, 0) = 2", "SEES 0 = see5/lost see2/lost also1/lost also3/lost");
        run("30 sees: with places or entries within all are ALSOS, in that order",
                "see(0, 0, 3, true) = 0", "see(0, 0, 5, false) = 1", "see(0, 1, 3, true) = 2", "see(0, 1, 5, false) = 3",
                on(1, 5, 0, 4), "mark(0, 0, 1, 0, NONE, 0) = 5", "build(0, 0, 0) = 3", "PATHS = 0 1 1.0",
                "SEES 0 = also5/lost also3/lost", "SEES 1 = also5/lost also3/lost", "SEES 2 = ");
    }

    private static void ledGood() {
        run("30 sees, 35 led: GOOD and LOST, through entries that have sees alone",
                "see(0, 0, 1, false) = 0", "see(0, 1, 2, true) = 1", "see(0, 2, 3, false) = 2", "see(0, 4, 5, false) = 3",
                "mark(0, 0, 1, 5, NONE, 0) = 4", "drop(4) = 1", "mark(0, 0, 3, 5, NONE, 0) = 5",
                "build(0, 0, 0) = 6", "PATHS = 0 1 2 3 3.5 4", "SEES 0 = see1/good", "SEES 1 = also2/good",
                "SEES 2 = see3/good", "SEES 5 = see5/lost", "led(0) = 3", "led(1) = 1", "led(2) = 0",
                "led(3) = OUTSIDE", "led(-1) = OUTSIDE", "drop(5) = 1", "led(0) = 3", "build(0, 0, 0) = 4", "led(0) = 0",
                "led(1) = 4", "led(2) = 0", "SEES 0 = see1/lost");
    }

    private static void ledRound() {
        run("30 sees, 35 led: ROUND by the first sees",
                "see(0, 0, 1, false) = 0", "see(0, 1, 0, false) = 1", "see(0, 1, 2, true) = 2", "see(0, 3, 0, true) = 3",
                on(0, 0, 2, 4), "build(0, 0, 0) = 4", "SEES 0 = see1/round", "SEES 1 = see0/round also2/good",
                "SEES 3 = also0/round", "led(0) = 1", "led(1) = 0", "led(2) = 3");
        run("30 sees: a way back to where it began goes on by the first see there",
                "see(0, 0, 1, false) = 0", "see(0, 0, 2, true) = 1", "see(0, 2, 0, false) = 2", on(0, 0, 1, 3),
                "build(0, 0, 0) = 3", "SEES 0 = see1/good also2/good", "SEES 2 = see0/good", "led(0) = 3");
    }

    private static void find() {
        run("31 find",
                "mark(0, 0, 1, 0, 2, 0) = 0", on(0, 0, 0, 1), "find(0, NONE, NONE) = NONE", "build(0, 0, 0) = 4",
                "find(0, NONE, NONE) = 0", "find(1, NONE, NONE) = 1", "find(1, 0, NONE) = 2", "find(1, 0, 2) = 3",
                "find(1, 2, NONE) = NONE", "find(1, 0, 0) = NONE", "find(2, NONE, NONE) = NONE", "find(6, NONE, NONE) = UNKNOWN",
                "find(NONE, NONE, NONE) = UNKNOWN", "find(1, 6, NONE) = UNKNOWN", "find(1, 0, 6) = UNKNOWN",
                "find(1, NONE, 0) = STATE", "find(1, NONE, 6) = UNKNOWN", "find(-1, NONE, 0) = UNKNOWN",
                "meld(0, 3) = 2", "find(0, NONE, NONE) = UNKNOWN", "find(1, 3, 2) = NONE", "PATHS = 0 1 1.0 1.0.2");
    }

    private static void first() {
        Calls.run("32 first",
                "HEAD the cat = 0", "HEAD Cats = 1", "HEAD dog = 2", "HEAD cab = 3", "SORT 2 CAT 9", "PASS the = 1",
                "mark(0, 0, 0, NONE, NONE, 0) = 0", "mark(0, 0, 1, 3, NONE, 0) = 1", "mark(0, 0, 2, NONE, NONE, 0) = 2",
                "NAME c", "first() = NONE", "build(0, 0, 0) = 4", "PATHS = 0 2 1 1.3", "first() = 1", "NAME cat", "first() = 1",
                "NAME cAt 9", "first() = 1", "NAME cat 9x", "first() = NONE", "NAME cats", "first() = 2", "NAME cab",
                "first() = NONE", "NAME THE C", "first() = 0", "NAME d", "first() = NONE", "unname() = 1", "first() = STATE",
                "sortAs(2) = 1", "NAME x", "rename(1) = 1", "NAME cats", "first() = 2", "NAME x", "first() = NONE",
                "NAME dog", "first() = NONE", "build(0, 0, 0) = 4", "first() = 1", "NAME ca", "first() = NONE");
    }

    private static void unmatched() {
        run("33 unmatched and 34 unmatchedAt",
                on(9, 1, 0, 0), on(5, 2, 0, 1), on(4, 1, 1, 2), on(6, 2, 1, 3), on(6, 2, 2, 4), "unmatched() = 0",
                "unmatchedAt(0) = UNKNOWN", "build(0, 0, 0) = 3", "unmatched() = 3", "unmatchedAt(0) = 0",
                "unmatchedAt(1) = 1", "unmatchedAt(2) = 4", "unmatchedAt(3) = UNKNOWN", "unmatchedAt(-1) = UNKNOWN",
                "unmatchedAt(MOST) = UNKNOWN", "drop(0) = 1", "unmatched() = 3", "build(0, 0, 0) = 3", "UNMATCHED = 1 4",
                "build(0, 0, 0) = 3", "UNMATCHED = 1 4");
    }

    private static void changed() {
        run("36 changed: paths that just one has",
                "changed() = 0", "build(0, 0, 0) = 0", "changed() = 0", "mark(2, 0, 0, 1, NONE, 0) = 0", "changed() = 0",
                "build(0, 0, 0) = 2", "changed() = 2", "build(0, 0, 0) = 2", "changed() = 0", "build(1, 0, 1) = 2",
                "changed() = 0", "meld(0, 1) = 1", "build(0, 0, 0) = 2", "changed() = 4", "undo() = 39",
                "changed() = 4", "build(0, 0, 0) = 2", "changed() = 4", "drop(0) = 1", "build(0, 0, 0) = 0", "changed() = 2",
                "build(0, 0, 0) = 0", "changed() = 0");
    }

    private static void changedPlacesAndSees() {
        run("36 changed: places, their order, sees, but not what is GOOD",
                on(3, 3, 0, 0), on(1, 0, 0, 1), "see(0, 2, 1, false) = 2", "build(0, 0, 0) = 2", "changed() = 2",
                "build(0, 0, 1) = 2", "changed() = 1", "build(0, 0, 0) = 2", "changed() = 1", on(5, 0, 1, 3),
                "build(0, 0, 0) = 3", "changed() = 1", "SEES 2 = see1/good", "see(0, 2, 0, true) = 4", "build(0, 0, 0) = 3",
                "changed() = 1", on(7, 4, 2, 5).replace("0) = 5", "6) = 5"), "build(0, 0, 0) = 3", "changed() = 1", "drop(5) = 1",
                on(7, 4, 2, 6).replace("0) = 6", "7) = 6"), "build(0, 0, 0) = 3", "changed() = 1", "flow(1) = 2",
                "build(0, 0, 0) = 3", "changed() = 3", "mark(0, 0, 2, 1, NONE, 0) = 7", "build(0, 0, 0) = 4", "changed() = 1");
        run("36 changed: a SEE that becomes an ALSO by an entry within",
                "see(0, 2, 1, false) = 0", "build(0, 0, 0) = 1", "mark(0, 0, 2, 3, NONE, 0) = 1", "build(0, 0, 0) = 2",
                "changed() = 2", "mark(0, 0, 2, 4, NONE, 0) = 2", "build(0, 0, 0) = 3", "changed() = 1",
                "NAME zz", "rename(3) = 1", "build(0, 0, 0) = 3", "changed() = 0");
        run("36 changed: places and sees that are fewer, a place of another kind",
                on(1, 0, 0, 0), on(3, 0, 0, 1), "see(0, 1, 0, false) = 2", "see(0, 1, 2, false) = 3", "build(0, 0, 0) = 2",
                "drop(1) = 1", "build(0, 0, 0) = 2", "changed() = 1", "undo() = 39", "build(0, 0, 0) = 2", "changed() = 1",
                "drop(3) = 1", "build(0, 0, 0) = 2", "changed() = 1", "SEES 1 = see0/good", "drop(0) = 1", on(1, 5, 0, 4),
                "build(0, 0, 0) = 2", "changed() = 1", "PLACES 0 = P1 R3-3");
        run("36 changed: the last place of a run",
                on(3, 1, 0, 0), on(5, 2, 0, 1), "build(0, 0, 0) = 1", "drop(1) = 1", on(6, 2, 0, 2), "build(0, 0, 0) = 1",
                "changed() = 1", "PLACES 0 = R3-6");
    }

    private static void stays() {
        run("27 build: the index stays as it is, whatever comes",
                on(3, 0, 0, 0), on(4, 1, 0, 1), "see(0, 0, 1, true) = 2", "build(0, 0, 0) = 1", "flow(1) = 2", "take(0) = 0",
                "drop(0) = 1", "meld(1, 2) = 1", "NAME zz", "rename(0) = 1", "PATHS = 0", "PLACES 0 = R3-3 R4-4",
                "SEES 0 = also1/lost", "UNMATCHED = 1", "told(5) = 1", "undo() = 39", "undo() = 38", "PLACES 0 = R3-3 R4-4",
                "build(1, 1, 1) = 1", "SEES 0 = also1/lost", "PLACES 0 = R8-8");
    }

    private static void shorten() {
        Calls.run("37 shorten",
                "shorten(123, 128, 0) = 3", "shorten(123, 128, 1) = 1", "shorten(123, 128, 2) = 2", "shorten(123, 145, 1) = 2",
                "shorten(123, 145, 2) = 2", "shorten(123, 223, 1) = 3", "shorten(123, 223, 2) = 3", "shorten(123, 123, 1) = 1",
                "shorten(123, 123, 2) = 2", "shorten(99, 100, 1) = 3", "shorten(99, 100, 2) = 3", "shorten(1, 1, 0) = 1",
                "shorten(1, 1, 1) = 1", "shorten(1, 1, 2) = 1", "shorten(3, 7, 2) = 1", "shorten(3, 17, 2) = 2",
                "shorten(999999, 999999, 0) = 6", "shorten(999999, 999999, 1) = 1", "shorten(1, 999999, 1) = 6",
                "shorten(100000, 100001, 1) = 1", "shorten(100000, 110000, 1) = 5", "shorten(100000, 200000, 2) = 6",
                "shorten(10, 20, 1) = 2", "shorten(101, 111, 1) = 2",
                "shorten(0, 1, 0) = OUTSIDE", "shorten(1000000, 1000000, 0) = OUTSIDE", "shorten(1, 1000000, 0) = OUTSIDE",
                "shorten(2, 1, 0) = OUTSIDE", "shorten(-1, 1, 0) = OUTSIDE", "shorten(1, 1, -1) = OUTSIDE",
                "shorten(1, 1, 3) = OUTSIDE", "shorten(1, LEAST, 0) = OUTSIDE", "shorten(1, MOST, 0) = OUTSIDE");
    }

    private static void unfold() {
        Calls.run("38 unfold",
                "unfold(123, 8, 1) = 128", "unfold(123, 45, 2) = 145", "unfold(123, 223, 3) = 223", "unfold(123, 123, 3) = 123",
                "unfold(123, 124, 6) = 124", "unfold(123, 8, 2) = STATE", "unfold(123, 3, 1) = 123", "unfold(123, 2, 1) = STATE",
                "unfold(120, 0, 1) = 120", "unfold(121, 0, 1) = STATE", "unfold(1, 0, 1) = STATE", "unfold(999999, 9, 1) = 999999",
                "unfold(999999, 999999, 6) = 999999", "unfold(5, 3, 4) = STATE", "unfold(5, 9, 6) = 9", "unfold(1203, 5, 2) = 1205",
                "unfold(100000, 99999, 5) = 199999", "unfold(100000, 99999, 6) = STATE", "unfold(100000, 1, 5) = 100001",
                "unfold(0, 1, 1) = OUTSIDE", "unfold(1000000, 1, 1) = OUTSIDE", "unfold(1, -1, 1) = OUTSIDE",
                "unfold(1, 1000000, 6) = OUTSIDE", "unfold(1, 1, 0) = OUTSIDE", "unfold(1, 1, 7) = OUTSIDE",
                "unfold(1, 10, 1) = OUTSIDE", "unfold(123, 100, 2) = OUTSIDE", "unfold(LEAST, 1, 1) = OUTSIDE",
                "unfold(1, LEAST, 1) = OUTSIDE", "unfold(1, 1, MOST) = OUTSIDE");
    }
}
