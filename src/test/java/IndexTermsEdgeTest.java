import java.io.IOException;
import java.util.ArrayList;
import java.util.List;

/** The edges that the document names under "Terms" of THE INDEX: entries, places, sees; each by the words that name it. */
public final class IndexTermsEdgeTest {
    /** Six heads a to f, and 60 words, two on a page. */
    private static final String[] BOOK = {"HEADS 6", "FILL 60", "flow(2) = 10"};

    public static void main(String[] args) throws IOException {
        entries();
        entryOrder();
        placesOnce();
        justItsPath();
        runs();
        runsOfOneGap();
        unmatched();
        likeRuns();
        runsWithin();
        runsWithMain();
        near();
        nearFromTheFront();
        placeOrder();
        chief();
        sees();
        seesThatAreAlsos();
        good();
        lost();
        asTheFirstSee();
        round();
        Edges.end(args, 0, 0);
    }

    private static void of(String words, String... lines) {
        Edges.of(Edges.TERMS, words, Edges.join(BOOK, lines));
    }

    private static void entries() {
        of("an ENTRY for each PATH that a MARK of kinds 0 .. 5 has", Edges.on(0, 0, 0, 0), Edges.on(0, 1, 1, 1), Edges.on(0, 2, 2, 2),
                Edges.on(0, 3, 3, 3), Edges.noteOn(0, 1, 4, 4), Edges.on(0, 5, 5, 5), "build(0, 0, 0) = 6", "PATHS = 0 1 2 3 4 5",
                "PLACES 0 = R0-0", "PLACES 1 = R0-0", "PLACES 2 = R0-0", "PLACES 3 = M0", "PLACES 4 = N0/1", "PLACES 5 = P0", "drop(0) = 1",
                "drop(5) = 1", "build(0, 0, 0) = 4", "PATHS = 1 2 3 4");
        of("for each PATH with which one of these begins", "mark(0, 0, 1, 1, 1, 0) = 0", "build(0, 0, 0) = 3", "PATHS = 1 1.1 1.1.1",
                "mark(0, 0, 1, NONE, NONE, 0) = 1", "mark(0, 0, 1, 1, NONE, 0) = 2", "build(0, 0, 0) = 3", "mark(0, 0, 1, 0, 1, 0) = 3",
                "build(0, 0, 0) = 5", "PATHS = 1 1.0 1.0.1 1.1 1.1.1");
        of("for each HEAD from which a SEE or ALSO leads (a PATH of it alone)", "see(0, 3, 1, false) = 0", "see(0, 2, 1, true) = 1",
                "build(0, 0, 0) = 2", "PATHS = 2 3", "entry(0, 3) = 0", "entry(0, 4) = 0", "entry(0, 5) = 1", "see(0, 3, 2, true) = 2",
                "build(0, 0, 0) = 2", "entry(1, 5) = 2", "mark(0, 0, 3, 2, NONE, 0) = 3", "build(0, 0, 0) = 3", "PATHS = 2 3 3.2",
                "entry(2, 5) = 0");
        of("THE INDEX is built of all MARKS", "build(0, 0, 0) = 0", Edges.on(0, 0, 0, 0), "drop(0) = 1", "build(0, 0, 0) = 0",
                "mark(60, 0, 0, NONE, NONE, 0) = 1", "mark(0, 0, 0, NONE, NONE, 0) = 2", "build(0, 0, 0) = 1", "PLACES 0 = R0-0 R29-29");
    }

    private static void entryOrder() {
        String words = "ENTRIES are numbered from 0 on: by the KEYS of the first HEADS; one ahead of those within it, these by the KEYS"
                + " of their second HEADS, and so on.";
        of(words, "mark(0, 0, 5, 0, 1, 0) = 0", "mark(0, 0, 5, 0, 0, 0) = 1", "mark(0, 0, 4, 5, 5, 0) = 2", "mark(0, 0, 4, 0, 5, 0) = 3",
                "mark(0, 0, 0, NONE, NONE, 0) = 4", "mark(0, 0, 5, 1, NONE, 0) = 5", "build(0, 0, 0) = 11",
                "PATHS = 0 4 4.0 4.0.5 4.5 4.5.5 5 5.0 5.0.0 5.0.1 5.1");
        Edges.of(Edges.TERMS, words, "HEAD z 1 = 0", "HEAD z10 = 1", "HEAD z 9 = 2", "HEAD z9 = 3", "HEAD Z = 4", "HEAD the a = 5",
                "mark(0, 0, 0, 1, 2, 0) = 0", "mark(0, 0, 0, 3, 2, 0) = 1", "mark(0, 0, 4, 5, NONE, 0) = 2", "mark(0, 0, 5, NONE, NONE, 0) = 3",
                "mark(0, 0, 3, NONE, NONE, 0) = 4", "mark(0, 0, 2, NONE, NONE, 0) = 5", "build(0, 0, 0) = 10",
                "PATHS = 5 4 4.5 0 0.3 0.3.2 0.1 0.1.2 2 3", "build(1, 0, 0) = 10", "PATHS = 5 4 4.5 0 0.3 0.3.2 0.1 0.1.2 2 3", "PASS the = 1",
                "SORT 3 z 0", "build(1, 0, 0) = 10", "PATHS = 5 4 4.5 3 0 0.3 0.3.2 0.1 0.1.2 2", "SORT 5 zz", "build(0, 0, 0) = 10",
                "PATHS = 4 4.5 3 0 0.3 0.3.2 0.1 0.1.2 2 5");
    }

    private static void placesOnce() {
        of("MAINS: of each PAGE of a MAIN one", "mark(3, 3, 0, NONE, NONE, 0) = 0", "mark(4, 3, 0, NONE, NONE, 0) = 1",
                "mark(5, 3, 0, NONE, NONE, 0) = 2", "mark(3, 3, 0, NONE, NONE, 0) = 3", "build(0, 0, 0) = 1", "PLACES 0 = M1 M2");
        of("NOTES: of each PAGE and note of a NOTE one", "mark(3, 4, 0, NONE, NONE, 9) = 0", "mark(4, 4, 0, NONE, NONE, 9) = 1",
                "mark(4, 4, 0, NONE, NONE, 1) = 2", "mark(5, 4, 0, NONE, NONE, 9) = 3", "mark(3, 4, 0, NONE, NONE, 99) = 4", "build(0, 0, 0) = 1",
                "PLACES 0 = N1/1 N1/9 N1/99 N2/9");
        of("PICTURES: of each PAGE of a PICTURE one", "mark(3, 5, 0, NONE, NONE, 0) = 0", "mark(4, 5, 0, NONE, NONE, 0) = 1",
                "mark(5, 5, 0, NONE, NONE, 0) = 2", "build(0, 0, 0) = 1", "PLACES 0 = P1 P2", "build(0, 20, 0) = 1", "PLACES 0 = P1 P2");
    }

    private static void justItsPath() {
        of("PLACES of an ENTRY, from the MARKS with just its PATH", "mark(2, 0, 0, 1, 2, 0) = 0", "mark(4, 3, 0, 1, NONE, 0) = 1",
                "mark(6, 5, 0, NONE, NONE, 0) = 2", "mark(8, 0, 1, 2, NONE, 0) = 3", "build(0, 0, 0) = 5", "PATHS = 0 0.1 0.1.2 1 1.2",
                "PLACES 0 = P2", "PLACES 1 = M1", "PLACES 2 = R0-0", "PLACES 3 = ", "PLACES 4 = R3-3");
        of("PLACES of an ENTRY, from the MARKS with just its PATH", "mark(4, 1, 0, NONE, NONE, 0) = 0", "mark(8, 2, 0, 1, NONE, 0) = 1",
                "mark(10, 2, 0, NONE, NONE, 0) = 2", "mark(6, 3, 0, 1, NONE, 0) = 3", "mark(6, 0, 0, NONE, NONE, 0) = 4", "build(0, 0, 0) = 2",
                "PLACES 0 = R1-4", "PLACES 1 = M2 R3-3", "UNMATCHED = 1", "see(0, 0, 1, false) = 5", "build(0, 0, 0) = 2", "PLACES 0 = R1-4");
    }

    private static void runs() {
        String words = "by GAPS, an OPEN and the next CLOSE behind it (by GAPS, then numbers) with no other OPEN between, make a run from the"
                + " one's PAGE to the other's";
        of(words, Edges.on(9, 2, 0, 0), Edges.on(2, 1, 0, 1), Edges.on(5, 0, 0, 2), Edges.on(12, 1, 0, 3), Edges.on(15, 1, 0, 4),
                Edges.on(18, 2, 0, 5), Edges.on(20, 2, 0, 6), "build(0, 0, 0) = 1", "PLACES 0 = R2-9 R12-12 R15-18 R20-20", "UNMATCHED = 3 6");
        of(words, Edges.on(2, 1, 0, 0), Edges.on(4, 1, 1, 1), Edges.on(6, 2, 0, 2), Edges.on(8, 2, 1, 3), "build(0, 0, 0) = 2", "PLACES 0 = R2-6",
                "PLACES 1 = R4-8", "UNMATCHED = ");
        of(words, "mark(0, 1, 0, NONE, NONE, 0) = 0", "mark(60, 2, 0, NONE, NONE, 0) = 1", "build(0, 0, 0) = 1", "PLACES 0 = R0-29",
                "drop(1) = 1", "mark(0, 2, 0, NONE, NONE, 0) = 2", "build(0, 0, 0) = 1", "PLACES 0 = R0-0", "UNMATCHED = ");
    }

    private static void runsOfOneGap() {
        String words = "(by GAPS, then numbers)";
        of(words, "mark(10, 1, 0, NONE, NONE, 0) = 0", "mark(10, 2, 0, NONE, NONE, 0) = 1", "mark(20, 2, 0, NONE, NONE, 0) = 2",
                "mark(20, 1, 0, NONE, NONE, 0) = 3", "mark(30, 2, 0, NONE, NONE, 0) = 4", "build(0, 0, 0) = 1", "PLACES 0 = R4-4 R9-14",
                "UNMATCHED = 2");
        of(words, "mark(10, 2, 0, NONE, NONE, 0) = 0", "mark(9, 1, 0, NONE, NONE, 0) = 1", "mark(10, 1, 0, NONE, NONE, 0) = 2",
                "mark(10, 2, 0, NONE, NONE, 0) = 3", "build(0, 0, 0) = 1", "UNMATCHED = ", "PLACES 0 = R4-4");
    }

    private static void unmatched() {
        String words = "an OPEN, a CLOSE of no run is UNMATCHED, and stands as a POINT";
        of(words, Edges.on(1, 1, 0, 0), "build(0, 0, 0) = 1", "UNMATCHED = 0", "PLACES 0 = R1-1", "drop(0) = 1", Edges.on(1, 2, 0, 1),
                "build(0, 0, 0) = 1", "UNMATCHED = 1", "PLACES 0 = R1-1", Edges.on(5, 1, 0, 2), "build(0, 0, 0) = 1", "UNMATCHED = 1 2",
                "PLACES 0 = R1-1 R5-5", Edges.on(1, 3, 0, 3), "build(0, 0, 0) = 1", "PLACES 0 = M1 R5-5", "UNMATCHED = 1 2");
        of(words, Edges.on(2, 1, 0, 0), Edges.on(4, 0, 0, 1), Edges.on(5, 0, 0, 2), Edges.on(6, 1, 0, 3), Edges.on(7, 0, 0, 4), Edges.on(8, 2, 0, 5),
                Edges.on(9, 1, 0, 6), Edges.on(10, 0, 0, 7), Edges.on(11, 0, 0, 8), "build(0, 0, 0) = 1",
                "PLACES 0 = R2-2 R4-4 R5-5 R6-8 R9-9 R10-10 R11-11", "UNMATCHED = 0 6");
        of(words, Edges.on(1, 1, 0, 0), Edges.on(2, 1, 0, 1), Edges.on(3, 1, 0, 2), Edges.on(4, 2, 0, 3), Edges.on(5, 2, 0, 4),
                Edges.on(6, 2, 0, 5), "build(0, 0, 0) = 1", "PLACES 0 = R1-1 R2-2 R3-4 R5-5 R6-6", "UNMATCHED = 0 1 4 5");
    }

    private static void likeRuns() {
        of("Of like runs one is left", "mark(3, 0, 0, NONE, NONE, 0) = 0", "mark(4, 0, 0, NONE, NONE, 0) = 1", "mark(3, 1, 0, NONE, NONE, 0) = 2",
                "mark(4, 2, 0, NONE, NONE, 0) = 3", "build(0, 0, 0) = 1", "PLACES 0 = R1-1", "COUNT 46 mark(3, 0, 0, NONE, NONE, 0) = 4",
                "build(0, 0, 0) = 1", "PLACES 0 = R1-1");
        of("a POINT is a run from its PAGE to it", "mark(0, 0, 0, NONE, NONE, 0) = 0", "mark(60, 0, 0, NONE, NONE, 0) = 1", "build(0, 0, 0) = 1",
                "PLACES 0 = R0-0 R29-29");
    }

    private static void runsWithin() {
        String words = "a run that lies within another one goes";
        of(words, Edges.on(3, 1, 0, 0), Edges.on(7, 2, 0, 1), Edges.on(2, 0, 0, 2), Edges.on(3, 0, 0, 3), Edges.on(5, 0, 0, 4),
                Edges.on(7, 0, 0, 5), Edges.on(8, 0, 0, 6), "build(0, 0, 0) = 1", "PLACES 0 = R2-2 R3-7 R8-8");
        of(words, "mark(4, 1, 0, NONE, NONE, 0) = 0", "mark(9, 2, 0, NONE, NONE, 0) = 1", "mark(9, 1, 0, NONE, NONE, 0) = 2",
                "mark(10, 2, 0, NONE, NONE, 0) = 3", "mark(10, 1, 0, NONE, NONE, 0) = 4", "mark(20, 2, 0, NONE, NONE, 0) = 5",
                "build(0, 0, 0) = 1", "PLACES 0 = R1-4 R4-9");
        of(words, "mark(3, 1, 0, NONE, NONE, 0) = 0", "mark(3, 2, 0, NONE, NONE, 0) = 1", "mark(4, 1, 0, NONE, NONE, 0) = 2",
                "mark(6, 2, 0, NONE, NONE, 0) = 3", "build(0, 0, 0) = 1", "PLACES 0 = R1-2");
    }

    private static void runsWithMain() {
        String words = "a run of one PAGE goes, if a MAIN is there.";
        of(words, Edges.on(1, 0, 0, 0), Edges.on(2, 0, 0, 1), Edges.on(3, 0, 0, 2), Edges.on(2, 3, 0, 3), "build(0, 0, 0) = 1",
                "PLACES 0 = R1-1 M2 R3-3", "drop(3) = 1", "build(0, 0, 0) = 1", "PLACES 0 = R1-1 R2-2 R3-3", Edges.on(2, 5, 0, 4),
                Edges.noteOn(2, 5, 0, 5), Edges.on(2, 3, 1, 6), "mark(6, 3, 0, 1, NONE, 0) = 7", "build(0, 0, 0) = 3",
                "PLACES 0 = R1-1 R2-2 P2 N2/5 R3-3");
        of(words, Edges.on(0, 5, 0, 0), Edges.on(5, 3, 1, 1), Edges.on(5, 0, 1, 2), Edges.on(6, 0, 1, 3), Edges.on(7, 5, 1, 4),
                Edges.on(8, 3, 1, 5), Edges.on(8, 0, 1, 6), Edges.on(5, 0, 2, 7), Edges.on(8, 5, 2, 8), "build(0, 0, 0) = 3", "PLACES 0 = P0",
                "PLACES 1 = M5 R6-6 P7 M8", "PLACES 2 = R5-5 P8", "build(0, 0, 1) = 3", "PLACES 1 = M5 M8 R6-6 P7");
        of(words, Edges.on(4, 1, 0, 0), Edges.on(5, 2, 0, 1), Edges.on(4, 3, 0, 2), Edges.on(5, 3, 0, 3), "build(0, 0, 0) = 1",
                "PLACES 0 = M4 R4-5 M5", "mark(14, 1, 0, NONE, NONE, 0) = 4", "mark(14, 2, 0, NONE, NONE, 0) = 5", "build(0, 0, 0) = 1",
                "PLACES 0 = M4 R4-5 M5 R6-6", Edges.on(6, 3, 0, 6), "build(0, 0, 0) = 1", "PLACES 0 = M4 R4-5 M5 M6");
    }

    private static void near() {
        String words = "if NEAR (0 at first) is above 0, a run and the next one become one, from the first PAGE to the greater of both last ones,"
                + " if the next one's first PAGE is no more than NEAR behind the last PAGE of the former";
        of(words, Edges.on(0, 0, 0, 0), Edges.on(1, 0, 0, 1), Edges.on(21, 0, 0, 2), "build(0, 0, 0) = 1", "PLACES 0 = R0-0 R1-1 R21-21",
                "build(0, 1, 0) = 1", "PLACES 0 = R0-1 R21-21", "build(0, 19, 0) = 1", "PLACES 0 = R0-1 R21-21", "build(0, 20, 0) = 1",
                "PLACES 0 = R0-21");
        of(words, Edges.on(0, 0, 0, 0), Edges.on(21, 0, 0, 1), "build(0, 20, 0) = 1", "PLACES 0 = R0-0 R21-21");
        of(words, "mark(4, 1, 0, NONE, NONE, 0) = 0", "mark(9, 2, 0, NONE, NONE, 0) = 1", "mark(10, 1, 0, NONE, NONE, 0) = 2",
                "mark(20, 2, 0, NONE, NONE, 0) = 3", "build(0, 0, 0) = 1", "PLACES 0 = R1-4 R4-9", "build(0, 1, 0) = 1", "PLACES 0 = R1-9");
        of(words, Edges.on(1, 1, 0, 0), Edges.on(5, 2, 0, 1), Edges.on(7, 1, 0, 2), Edges.on(9, 2, 0, 3), Edges.on(6, 3, 0, 4),
                "build(0, 1, 0) = 1", "PLACES 0 = R1-5 M6 R7-9", "build(0, 2, 0) = 1", "PLACES 0 = R1-9 M6");
    }

    private static void nearFromTheFront() {
        String words = "from the front on, as long as that is so.";
        of(words, Edges.on(9, 0, 0, 0), Edges.on(0, 0, 0, 1), Edges.on(6, 0, 0, 2), Edges.on(2, 0, 0, 3), Edges.on(4, 0, 0, 4),
                "build(0, 1, 0) = 1", "PLACES 0 = R0-0 R2-2 R4-4 R6-6 R9-9", "build(0, 2, 0) = 1", "PLACES 0 = R0-6 R9-9", "build(0, 3, 0) = 1",
                "PLACES 0 = R0-9");
        List<String> lines = new ArrayList<>();
        for (int m = 0; m < 30; m++) {
            lines.add(Edges.on(29 - m, 0, 0, m));
        }
        lines.addAll(List.of("build(0, 0, 0) = 1", "entry(0, 3) = 30", "build(0, 1, 0) = 1", "PLACES 0 = R0-29", "drop(15) = 1",
                "build(0, 1, 0) = 1", "PLACES 0 = R0-13 R15-29"));
        of(words, lines.toArray(new String[0]));
        of(words, Edges.on(1, 0, 0, 0), Edges.on(2, 0, 0, 1), Edges.on(3, 0, 0, 2), Edges.on(2, 3, 0, 3), "build(0, 1, 0) = 1",
                "PLACES 0 = R1-1 M2 R3-3");
    }

    private static void placeOrder() {
        String words = "PLACES are in order: by their first PAGES; of like ones MAINS, runs, PICTURES, NOTES (by their notes)";
        of(words, Edges.noteOn(3, 99, 0, 0), Edges.noteOn(3, 1, 0, 1), Edges.on(3, 5, 0, 2), Edges.on(3, 1, 0, 3), Edges.on(3, 3, 0, 4),
                Edges.on(4, 2, 0, 5), Edges.noteOn(2, 50, 0, 6), Edges.on(4, 3, 0, 7), "build(0, 0, 0) = 1",
                "PLACES 0 = N2/50 M3 R3-4 P3 N3/1 N3/99 M4");
        of(words, Edges.noteOn(0, 50, 0, 0), Edges.noteOn(1, 5, 0, 1), Edges.noteOn(1, 9, 0, 2), Edges.noteOn(2, 9, 0, 3), Edges.noteOn(2, 5, 0, 4),
                Edges.noteOn(3, 98, 0, 5), Edges.noteOn(3, 99, 0, 6), Edges.noteOn(3, 97, 0, 7), Edges.noteOn(0, 51, 1, 8),
                Edges.noteOn(0, 49, 1, 9), Edges.noteOn(0, 50, 1, 10), "build(0, 0, 0) = 2",
                "PLACES 0 = N0/50 N1/5 N1/9 N2/5 N2/9 N3/97 N3/98 N3/99", "PLACES 1 = N0/49 N0/50 N0/51");
        of(words, Edges.on(0, 5, 0, 0), Edges.on(29, 3, 0, 1), Edges.on(0, 0, 0, 2), Edges.noteOn(28, 99, 0, 3), "build(0, 0, 0) = 1",
                "PLACES 0 = R0-0 P0 N28/99 M29");
    }

    private static void chief() {
        String words = "by CHIEF (0 at first) 1 all MAINS ahead.";
        of(words, Edges.on(0, 0, 0, 0), Edges.on(29, 3, 0, 1), Edges.on(5, 3, 0, 2), Edges.on(5, 5, 0, 3), Edges.noteOn(29, 7, 0, 4),
                "build(0, 0, 0) = 1", "PLACES 0 = R0-0 M5 P5 M29 N29/7", "build(0, 0, 1) = 1", "PLACES 0 = M5 M29 R0-0 P5 N29/7",
                "build(0, 0, 0) = 1", "PLACES 0 = R0-0 M5 P5 M29 N29/7");
        of(words, Edges.on(3, 0, 0, 0), Edges.noteOn(3, 99, 0, 1), Edges.noteOn(3, 1, 0, 2), Edges.on(3, 5, 0, 3), "build(0, 0, 1) = 1",
                "PLACES 0 = R3-3 P3 N3/1 N3/99");
    }

    private static void sees() {
        String words = "SEES of an ENTRY (of one HEAD alone): the HEADS to which SEES lead from it, then those of ALSOS, by KEYS, each once"
                + " (of both: as of a SEE).";
        of(words, "see(0, 2, 5, true) = 0", "see(0, 2, 4, false) = 1", "see(0, 2, 3, true) = 2", "see(0, 2, 1, false) = 3", "see(0, 2, 1, false) = 4",
                "see(0, 2, 4, true) = 5", "see(0, 2, 3, true) = 6", "build(0, 0, 0) = 1", "SEES 0 = see1/lost see4/lost also3/lost also5/lost",
                "see(0, 2, 5, false) = 7", "build(0, 0, 0) = 1", "SEES 0 = see1/lost see4/lost see5/lost also3/lost", "SORT 5 a",
                "build(0, 0, 0) = 1", "SEES 0 = see5/lost see1/lost see4/lost also3/lost");
        of(words, "see(0, 2, 5, false) = 0", "see(0, 2, 5, true) = 1", "build(0, 0, 0) = 1", "SEES 0 = see5/lost", "drop(0) = 1", "build(0, 0, 0) = 1",
                "SEES 0 = also5/lost", "mark(0, 0, 3, 2, NONE, 0) = 2", "mark(0, 0, 2, 2, NONE, 0) = 3", "build(0, 0, 0) = 4",
                "PATHS = 2 2.2 3 3.2", "SEES 0 = also5/lost", "SEES 1 = ", "SEES 2 = ", "SEES 3 = ");
        Edges.of(Edges.TERMS, words, "HEAD new york = 0", "HEAD newark = 1", "HEAD x = 2", "see(0, 2, 0, false) = 0", "see(0, 2, 1, false) = 1",
                "build(0, 0, 0) = 1", "SEES 0 = see1/lost see0/lost", "build(1, 0, 0) = 1", "SEES 0 = see0/lost see1/lost");
    }

    private static void seesThatAreAlsos() {
        String words = "If it has PLACES or ENTRIES within it, all of them are ALSOS (in that order).";
        of(words, "see(0, 0, 5, false) = 0", "see(0, 0, 1, true) = 1", "build(0, 0, 0) = 1", "SEES 0 = see5/lost also1/lost", Edges.on(0, 5, 0, 2),
                "build(0, 0, 0) = 1", "SEES 0 = also5/lost also1/lost", "drop(2) = 1", "build(0, 0, 0) = 1", "SEES 0 = see5/lost also1/lost",
                "mark(0, 0, 0, 2, NONE, 0) = 3", "build(0, 0, 0) = 2", "SEES 0 = also5/lost also1/lost", "drop(3) = 1",
                "mark(0, 0, 1, 0, NONE, 0) = 4", "build(0, 0, 0) = 3", "PATHS = 0 1 1.0", "SEES 0 = see5/lost also1/good");
    }

    private static void good() {
        String words = "A SEE or ALSO is GOOD, if there is an ENTRY of the HEAD to which it leads that has PLACES or ENTRIES within it";
        of(words, "see(0, 0, 1, false) = 0", "see(0, 2, 3, true) = 1", Edges.noteOn(0, 1, 1, 2), "mark(0, 0, 3, 4, 5, 0) = 3", "build(0, 0, 0) = 6",
                "PATHS = 0 1 2 3 3.4 3.4.5", "entry(3, 3) = 0", "SEES 0 = see1/good", "SEES 2 = also3/good", "led(0) = 2");
        of(words, "see(0, 0, 1, false) = 0", "see(0, 1, 5, false) = 1", Edges.on(0, 3, 1, 2), "build(0, 0, 0) = 2", "SEES 0 = see1/good",
                "SEES 1 = also5/lost");
    }

    private static void lost() {
        String words = "LOST, if there is none of that HEAD";
        of(words, "see(0, 0, 1, false) = 0", "mark(0, 0, 2, 1, NONE, 0) = 1", "mark(0, 0, 2, 2, 1, 0) = 2", "see(0, 3, 1, true) = 3",
                "build(0, 0, 0) = 6", "PATHS = 0 2 2.1 2.2 2.2.1 3", "SEES 0 = see1/lost", "SEES 5 = also1/lost", "led(1) = 2", Edges.on(0, 0, 1, 4),
                "led(1) = 2", "build(0, 0, 0) = 7", "led(1) = 0", "led(0) = 2");
    }

    private static void asTheFirstSee() {
        String words = "else (that has SEES alone) it is as that one's first SEE, and so on";
        of(words, "see(0, 0, 1, false) = 0", "see(0, 1, 5, true) = 1", "see(0, 1, 4, false) = 2", Edges.on(0, 0, 5, 3), "build(0, 0, 0) = 3",
                "SEES 1 = see4/lost also5/good", "SEES 0 = see1/lost", "drop(2) = 1", "build(0, 0, 0) = 3", "SEES 1 = also5/good",
                "SEES 0 = see1/good");
        of(words, chain(29, false));
        of(words, chain(29, true));
    }

    /** A way through all 30 heads, at whose end there is something or nothing. */
    private static String[] chain(int last, boolean isGood) {
        List<String> lines = new ArrayList<>();
        for (int h = 6; h <= last; h++) {
            lines.add("HEAD z" + (char) ('a' + h - 6) + " = " + h);
        }
        for (int h = 0; h < last; h++) {
            lines.add("see(0, " + h + ", " + (h + 1) + ", " + (h % 2 == 0) + ") = " + h);
        }
        lines.add(isGood ? "mark(0, 5, " + last + ", 0, NONE, 0) = " + last : "mark(0, 5, 0, " + last + ", NONE, 0) = " + last);
        lines.add(isGood ? "build(0, 0, 0) = 31" : "build(0, 0, 0) = 30");
        lines.addAll(List.of("led(0) = " + (isGood ? last : 0), "led(1) = " + (isGood ? 0 : last), "led(2) = 0"));
        return lines.toArray(new String[0]);
    }

    private static void round() {
        String words = "it is ROUND, if that comes to an ENTRY once more.";
        of(words, "see(0, 0, 1, false) = 0", "see(0, 1, 0, false) = 1", "see(0, 2, 1, true) = 2", "build(0, 0, 0) = 3", "SEES 0 = see1/round",
                "SEES 1 = see0/round", "SEES 2 = also1/round", "led(2) = 3", "see(0, 1, 3, true) = 3", Edges.on(0, 0, 3, 4), "build(0, 0, 0) = 4",
                "SEES 0 = see1/round", "SEES 1 = see0/round also3/good", "led(2) = 3", "led(0) = 1", "mark(0, 0, 0, 5, NONE, 0) = 5",
                "build(0, 0, 0) = 5", "led(2) = 0", "led(0) = 4");
        of(words, ring());
    }

    /** A way through all 30 heads that comes back to the first one. */
    private static String[] ring() {
        List<String> lines = new ArrayList<>();
        for (int h = 6; h <= 29; h++) {
            lines.add("HEAD z" + (char) ('a' + h - 6) + " = " + h);
        }
        for (int h = 0; h < 30; h++) {
            lines.add("see(0, " + h + ", " + (h + 1) % 30 + ", false) = " + h);
        }
        lines.addAll(List.of("build(0, 0, 0) = 30", "led(0) = 0", "led(1) = 0", "led(2) = 30", Edges.on(0, 5, 17, 30), "build(0, 0, 0) = 30",
                "led(0) = 30", "led(2) = 0", "drop(30) = 1", "drop(17) = 1", "build(0, 0, 0) = 29", "led(0) = 0", "led(1) = 29"));
        return lines.toArray(new String[0]);
    }
}
