import java.io.IOException;
import java.util.ArrayList;
import java.util.List;

/** The edges of promises 39 to 45, each by the words that name it. */
public final class ActsEdgeTest {
    public static void main(String[] args) throws IOException {
        undoEach();
        undoNone();
        undoIsNoAct();
        undoState();
        undoForty();
        tray();
        trayRefused();
        taken();
        takenFaults();
        match();
        matchRefused();
        trace();
        fault();
        told();
        toldFull();
        Edges.end(args, 39, 45);
    }

    private static void undoEach() {
        String words = "The latest act that has not been undone, of put(), take(), move() (n above 0), head(), sortAs(), rename(), meld(),"
                + " mark(), see(), drop(), is undone: TERMS, HEADS, MARKS (and their numbers) are as they were: how many more can be.";
        Edges.of(39, words, "put(0, 7) = 1", "undo() = 0", "told(0) = 0", "FILL 3", "take(1) = 1", "undo() = 3", "WORDS = 0 1 2",
                "move(0, 1, 2) = 1", "undo() = 3", "WORDS = 0 1 2", "move(0, 3, 0) = 3", "undo() = 3", "WORDS = 0 1 2");
        Edges.of(39, words, "HEAD a = 0", "undo() = 0", "told(3) = 0", "about(0, 0) = UNKNOWN", "HEAD b = 0", "SORT 0 c", "undo() = 1",
                "SIGNS 0 = b", "NAME d", "rename(0) = 1", "undo() = 1", "SIGNS 0 = b", "HEAD e = 1", "meld(0, 1) = 0", "undo() = 2",
                "SIGNS 0 = b", "told(3) = 2", "SORT 0 x", "unname() = 1", "sortAs(0) = 1", "undo() = 3", "SIGNS 0 = x");
        Edges.of(39, words, "HEADS 2", "FILL 2", "mark(1, 4, 0, 1, 0, 7) = 0", "undo() = 4", "marked(0, 0) = UNKNOWN", "told(4) = 0",
                "see(2, 1, 0, true) = 0", "undo() = 4", "marked(0, 0) = UNKNOWN", "mark(2, 4, 0, 1, 0, 7) = 0", "drop(0) = 1", "undo() = 5",
                "marked(0, 0) = 4", "marked(0, 1) = 2", "marked(0, 2) = 0", "marked(0, 3) = 1", "marked(0, 4) = 0", "marked(0, 5) = 7",
                "take(1) = 1", "marked(0, 1) = 1", "undo() = 5", "marked(0, 1) = 2", "put(0, 3) = 3", "marked(0, 1) = 3", "undo() = 5",
                "marked(0, 1) = 2", "move(1, 1, 0) = 1", "marked(0, 1) = 1", "undo() = 5", "marked(0, 1) = 2");
        Edges.of(39, words, "HEADS 3", "mark(0, 0, 0, 1, 0, 0) = 0", "see(0, 0, 1, false) = 1", "mark(0, 0, 2, NONE, NONE, 0) = 2",
                "meld(0, 2) = 2", "undo() = 6", "marked(0, 2) = 0", "marked(0, 3) = 1", "marked(0, 4) = 0", "marked(1, 2) = 0",
                "marked(2, 2) = 2", "drop(1) = 1", "meld(1, 0) = 1", "undo() = 7", "undo() = 6", "marked(1, 0) = 6", "marked(1, 3) = 1",
                "undo() = 5", "mark(0, 3, 1, NONE, NONE, 0) = 2", "marked(2, 0) = 3");
    }

    private static void undoNone() {
        Edges.of(39, "move() (n above 0)", "FILL 2", "move(0, 0, 0) = 0", "told(8) = 2", "move(2, 0, 2) = 0", "told(8) = 2",
                "move(0, 1, 0) = 1", "told(8) = 3", "undo() = 2", "WORDS = 0 1", "undo() = 1", "WORDS = 0");
    }

    private static void undoIsNoAct() {
        Edges.of(39, "of put(), take(), move() (n above 0), head(), sortAs(), rename(), meld(), mark(), see(), drop()",
                "HEADS 2", "mark(0, 0, 0, NONE, NONE, 0) = 0", "told(8) = 3", "flow(5) = 10", "part(0, 2, 5, 66) = 1", "NAME q", "PASS the = 1",
                "tell(0) = 1", "show(0) = 100", "build(0, 1, 1) = 1", "tray(1, 0) = 1", "unname() = 3", "told(8) = 3", "undo() = 2",
                "told(4) = 0", "flow(5) = 5", "LABEL 0 = B-5", "told(2) = 1", "told(7) = 1", "told(6) = 0", "trace() = 37", "told(5) = 1",
                "PLACES 0 = R0-0", "taken(1) = 0", "changed() = 1", "build(0, 0, 0) = 0", "undo() = 1", "undo() = 0", "told(3) = 0");
    }

    private static void undoState() {
        Edges.of(39, "STATE: none",
                "REFUSED undo() = STATE", "put(0, 1) = 1", "undo() = 0", "REFUSED undo() = STATE", "put(1, 1) = OUTSIDE", "take(0) = UNKNOWN",
                "REFUSED undo() = STATE", "NAME a", "flow(1) = 10", "build(0, 0, 0) = 0", "move(0, 0, 0) = 0", "REFUSED undo() = STATE",
                "head() = 0", "undo() = 0", "REFUSED undo() = STATE");
    }

    private static void undoForty() {
        List<String> lines = new ArrayList<>(List.of("FILL 40", "told(8) = 40", "put(40, 99) = 41", "told(8) = 40"));
        for (int k = 39; k >= 0; k--) {
            lines.add("undo() = " + k);
        }
        lines.addAll(List.of("REFUSED undo() = STATE", "WORDS = 0", "told(8) = 0", "put(1, 5) = 2", "told(8) = 1", "undo() = 0",
                "WORDS = 0", "REFUSED undo() = STATE"));
        Edges.of(39, "the latest 40 are kept.", lines.toArray(new String[0]));
        List<String> exact = new ArrayList<>(List.of("FILL 40"));
        for (int k = 39; k >= 0; k--) {
            exact.add("undo() = " + k);
        }
        exact.addAll(List.of("told(0) = 0", "REFUSED undo() = STATE"));
        Edges.of(39, "the latest 40 are kept.", exact.toArray(new String[0]));
        Edges.of(39, "the latest 40 are kept.",
                "FILL 100", "told(8) = 40", "undo() = 39", "undo() = 38", "told(0) = 98", "put(98, 1) = 99", "told(8) = 39", "put(99, 2) = 100",
                "told(8) = 40", "put(100, 3) = 101", "told(8) = 40", "undo() = 39", "word(99) = 2", "undo() = 38", "word(98) = 1", "undo() = 37",
                "word(97) = 97", "told(0) = 98", "undo() = 36", "told(0) = 97");
        List<String> mixed = new ArrayList<>(List.of("HEADS 2", "COUNT 38 mark(0, 3, 0, 1, NONE, 0) = 0", "drop(0) = 1", "meld(1, 0) = 37",
                "told(8) = 40"));
        for (int k = 39; k >= 0; k--) {
            mixed.add("undo() = " + k);
        }
        mixed.addAll(List.of("undo() = STATE", "told(3) = 2", "told(4) = 0"));
        Edges.of(39, "the latest 40 are kept.", mixed.toArray(new String[0]));
    }

    private static void tray() {
        Edges.of(40, "THE TRAY has a HEAD (kind 0), a MARK (1), a PAGE (2), or nothing (3; number is not looked at): 1.",
                "tray(2, 0) = 1", "taken(2) = 0", "tray(3, 0) = 1", "taken(2) = NULL", "tray(3, LEAST) = 1", "tray(3, MOST) = 1",
                "tray(3, -1) = 1", "taken(0) = NULL", "told(8) = 0");
        Edges.of(40, "THE TRAY has a HEAD (kind 0), a MARK (1), a PAGE (2), or nothing (3; number is not looked at): 1.",
                "HEADS 30", "COUNT 50 mark(0, 0, 0, NONE, NONE, 0) = 0", "tray(0, 0) = 1", "taken(0) = 0", "tray(0, 29) = 1", "taken(0) = 29",
                "tray(1, 0) = 1", "taken(1) = 0", "tray(1, 49) = 1", "taken(1) = 49", "taken(0) = CAST", "tray(2, 0) = 1", "taken(2) = 0");
        Edges.of(40, "THE TRAY has a HEAD (kind 0), a MARK (1), a PAGE (2), or nothing (3; number is not looked at): 1.",
                "FILL 300", "flow(1) = 10", "tray(2, 299) = 1", "taken(2) = 299", "REFUSED tray(2, 300) = UNKNOWN", "flow(50) = 1",
                "REFUSED tray(2, 6) = UNKNOWN", "tray(2, 5) = 1", "taken(2) = 5");
    }

    private static void trayRefused() {
        Edges.of(40, "OUTSIDE: kind",
                "tray(2, 0) = 1", "REFUSED tray(-1, 0) = OUTSIDE", "REFUSED tray(4, 0) = OUTSIDE", "REFUSED tray(LEAST, 0) = OUTSIDE",
                "REFUSED tray(MOST, 0) = OUTSIDE", "REFUSED tray(4, -1) = OUTSIDE", "taken(2) = 0");
        Edges.of(40, "UNKNOWN.",
                "tray(2, 0) = 1", "REFUSED tray(0, 0) = UNKNOWN", "REFUSED tray(1, 0) = UNKNOWN", "REFUSED tray(2, 1) = UNKNOWN",
                "REFUSED tray(2, -1) = UNKNOWN", "HEADS 2", "COUNT 2 mark(0, 0, 0, NONE, NONE, 0) = 0", "REFUSED tray(0, 2) = UNKNOWN",
                "REFUSED tray(0, -1) = UNKNOWN", "REFUSED tray(0, NONE) = UNKNOWN", "REFUSED tray(0, LEAST) = UNKNOWN",
                "REFUSED tray(0, MOST) = UNKNOWN", "REFUSED tray(1, 2) = UNKNOWN", "REFUSED tray(1, -1) = UNKNOWN",
                "REFUSED tray(1, LEAST) = UNKNOWN", "REFUSED tray(1, MOST) = UNKNOWN", "REFUSED tray(2, LEAST) = UNKNOWN",
                "REFUSED tray(2, MOST) = UNKNOWN", "meld(1, 0) = 0", "REFUSED tray(0, 1) = UNKNOWN", "drop(1) = 1",
                "REFUSED tray(1, 1) = UNKNOWN", "FILL 10", "REFUSED tray(2, 1) = UNKNOWN", "taken(2) = 0", "put(0, 0) = 11", "tray(2, 1) = 1",
                "taken(2) = 1");
    }

    private static void taken() {
        Edges.of(41, "What THE TRAY has, taken as a kind 0 .. 2: its number.",
                "HEADS 2", "COUNT 2 mark(0, 0, 0, NONE, NONE, 0) = 0", "FILL 11", "tray(0, 0) = 1", "taken(0) = 0", "tray(0, 1) = 1", "taken(0) = 1",
                "taken(0) = 1", "tray(1, 0) = 1", "taken(1) = 0", "tray(1, 1) = 1", "taken(1) = 1", "tray(2, 0) = 1", "taken(2) = 0",
                "tray(2, 1) = 1", "taken(2) = 1", "fault() = 0", "told(8) = 15");
        Edges.of(41, "(What was put there stays, though it may be gone since.)",
                "HEADS 2", "mark(0, 0, 0, NONE, NONE, 0) = 0", "FILL 11", "tray(0, 1) = 1", "meld(1, 0) = 0", "taken(0) = 1", "tray(1, 0) = 1",
                "drop(0) = 1", "taken(1) = 0", "taken(1) = 0", "tray(2, 1) = 1", "take(0) = 0", "taken(2) = 1", "undo() = 16", "undo() = 15",
                "taken(2) = 1", "taken(0) = CAST");
        Edges.of(41, "(What was put there stays, though it may be gone since.)",
                "HEAD a = 0", "tray(0, 0) = 1", "undo() = 0", "taken(0) = 0", "tray(0, 0) = UNKNOWN", "taken(0) = 0", "fault() = 0");
    }

    private static void takenFaults() {
        Edges.of(41, "OUTSIDE; NULL: it has nothing; CAST.",
                "REFUSED taken(3) = OUTSIDE", "REFUSED taken(-1) = OUTSIDE", "fault() = 0", "REFUSED taken(0) = NULL", "fault() = 1",
                "REFUSED taken(1) = NULL", "REFUSED taken(2) = NULL", "fault() = 1", "REFUSED taken(3) = OUTSIDE", "fault() = 0",
                "REFUSED taken(LEAST) = OUTSIDE", "REFUSED taken(MOST) = OUTSIDE");
        Edges.of(41, "OUTSIDE; NULL: it has nothing; CAST.",
                "HEADS 2", "mark(0, 0, 0, NONE, NONE, 0) = 0", "tray(0, 1) = 1", "REFUSED taken(1) = CAST", "fault() = 2",
                "REFUSED taken(2) = CAST", "taken(0) = 1", "fault() = 0", "tray(1, 0) = 1", "REFUSED taken(0) = CAST", "REFUSED taken(2) = CAST",
                "taken(1) = 0", "tray(2, 0) = 1", "REFUSED taken(0) = CAST", "REFUSED taken(1) = CAST", "fault() = 2",
                "REFUSED taken(3) = OUTSIDE", "fault() = 0", "taken(2) = 0", "tray(3, 0) = 1", "REFUSED taken(2) = NULL", "fault() = 1");
    }

    private static void match() {
        String words = "Signs i .. i + n - 1 of HEAD a, as bytes, and as many of HEAD b from j on: whether they are alike (1, 0), by way of rows of n.";
        Edges.of(42, words,
                "HEAD abcdefghijklmnop = 0", "HEAD a = 1", "HEAD aBcdefghijklmnop = 2", "match(0, 0, 0, 0, 16) = 1", "match(0, 0, 2, 0, 16) = 0",
                "match(0, 0, 1, 0, 1) = 1", "match(0, 1, 1, 0, 1) = 0", "match(0, 15, 2, 15, 1) = 1", "match(0, 2, 2, 2, 14) = 1",
                "match(0, 1, 2, 1, 15) = 0", "match(0, 1, 2, 1, 1) = 0", "match(0, 0, 1, 0, 0) = 1", "match(0, 16, 1, 1, 0) = 1",
                "match(1, 1, 1, 0, 0) = 1", "match(0, 0, 0, 1, 15) = 0", "fault() = 0");
        Edges.of(42, words,
                "HEAD abab = 0", "HEAD b = 1", "SORT 1 abababab", "match(0, 0, 0, 2, 2) = 1", "match(0, 0, 0, 1, 3) = 0", "match(0, 1, 0, 3, 1) = 1",
                "match(1, 0, 0, 1, 1) = 1", "match(1, 0, 0, 0, 2) = INDEX", "NAME abab", "rename(1) = STATE", "NAME abaB", "rename(1) = 1",
                "match(0, 0, 1, 0, 3) = 1", "match(0, 0, 1, 0, 4) = 0", "match(0, 3, 1, 3, 1) = 0");
    }

    private static void matchRefused() {
        Edges.of(42, "UNKNOWN",
                "REFUSED match(0, 0, 0, 0, 0) = UNKNOWN", "HEADS 2", "REFUSED match(2, 0, 0, 0, 1) = UNKNOWN", "REFUSED match(0, 0, 2, 0, 1) = UNKNOWN",
                "REFUSED match(-1, 0, 0, 0, 1) = UNKNOWN", "REFUSED match(0, 0, -1, 0, 1) = UNKNOWN", "REFUSED match(LEAST, 0, 0, 0, 1) = UNKNOWN",
                "REFUSED match(0, 0, MOST, 0, 1) = UNKNOWN", "REFUSED match(2, 0, 0, 0, -1) = UNKNOWN", "REFUSED match(0, 9, 2, 0, 1) = UNKNOWN",
                "meld(1, 0) = 0", "REFUSED match(1, 0, 0, 0, 1) = UNKNOWN", "REFUSED match(0, 0, 1, 0, 1) = UNKNOWN", "fault() = 0",
                "match(0, 0, 0, 0, 1) = 1");
        Edges.of(42, "SIZE: n below 0",
                "HEADS 2", "REFUSED match(0, 0, 1, 0, -1) = SIZE", "fault() = 4", "REFUSED match(0, 0, 1, 0, LEAST) = SIZE",
                "REFUSED match(0, -1, 1, -1, -1) = SIZE", "REFUSED match(0, MOST, 1, MOST, -1) = SIZE", "REFUSED match(0, 9, 1, 9, -9) = SIZE",
                "match(0, 0, 1, 0, 0) = 1", "fault() = 0");
        Edges.of(42, "INDEX: they are not all there.",
                "HEAD abc = 0", "HEAD abcd = 1", "REFUSED match(0, 0, 1, 0, 4) = INDEX", "fault() = 3", "REFUSED match(1, 0, 0, 0, 4) = INDEX",
                "REFUSED match(0, 1, 1, 0, 3) = INDEX", "REFUSED match(1, 2, 0, 0, 3) = INDEX", "REFUSED match(1, 0, 0, 1, 3) = INDEX",
                "REFUSED match(0, 0, 1, 2, 3) = INDEX", "REFUSED match(0, 3, 1, 0, 1) = INDEX", "REFUSED match(1, 0, 0, 3, 1) = INDEX",
                "REFUSED match(0, -1, 1, 0, 1) = INDEX", "REFUSED match(0, 0, 1, -1, 1) = INDEX", "REFUSED match(0, 4, 1, 0, 0) = INDEX",
                "REFUSED match(0, 0, 1, 5, 0) = INDEX", "REFUSED match(0, -1, 1, 0, 0) = INDEX", "REFUSED match(0, 0, 1, -1, 0) = INDEX",
                "match(0, 0, 1, 0, 3) = 1", "fault() = 0", "match(0, 0, 1, 1, 3) = 0");
        Edges.of(42, "INDEX: they are not all there.",
                "HEAD abc = 0", "REFUSED match(0, MOST, 0, 0, 1) = INDEX", "REFUSED match(0, 0, 0, MOST, 1) = INDEX",
                "REFUSED match(0, 1, 0, 0, MOST) = INDEX", "REFUSED match(0, 0, 0, 1, MOST) = INDEX", "REFUSED match(0, MOST, 0, MOST, MOST) = INDEX",
                "REFUSED match(0, LEAST, 0, 0, 1) = INDEX", "REFUSED match(0, 0, 0, LEAST, 1) = INDEX", "REFUSED match(0, LEAST, 0, LEAST, MOST) = INDEX",
                "REFUSED match(0, MOST, 0, 0, 0) = INDEX");
    }

    private static void trace() {
        List<String> lines = new ArrayList<>(List.of("trace() = 0", "HEADS 2", "see(0, 0, 1, true) = 0", "trace() = 0"));
        int trace = 0;
        for (int k = 0; k < 8; k++) {
            trace = (31 * trace + 5) * 31 + 4;
            lines.add("tell(0) = 6");
            lines.add("trace() = " + trace);
        }
        lines.addAll(List.of("trace() = " + trace, "show(0) = CAST", "trace() = " + trace, "undo() = 2", "trace() = " + trace));
        Edges.of(43, "TRACE.", lines.toArray(new String[0]));
    }

    private static void fault() {
        Edges.of(44, "The FAULT of the latest call that names one: 0: it came to none, or was refused (0 ahead of any).",
                "fault() = 0", "put(5, 5) = OUTSIDE", "fault() = 0", "taken(0) = NULL", "fault() = 1", "fault() = 1", "put(5, 5) = OUTSIDE",
                "word(0) = UNKNOWN", "undo() = STATE", "head() = STATE", "first() = STATE", "FILL 2", "fault() = 1", "move(0, 1, 1) = 1",
                "fault() = 0", "move(0, 1, 2) = INDEX", "fault() = 3", "move(0, 0, 0) = 0", "fault() = 0", "move(0, -1, 0) = SIZE", "fault() = 4",
                "show(0) = UNKNOWN", "fault() = 0", "move(0, -1, 0) = SIZE", "match(0, 0, 0, 0, 0) = UNKNOWN", "fault() = 0",
                "move(0, -1, 0) = SIZE", "taken(3) = OUTSIDE", "fault() = 0");
        Edges.of(44, "The FAULT of the latest call that names one: 0: it came to none, or was refused (0 ahead of any).",
                "HEADS 2", "see(0, 0, 1, false) = 0", "mark(0, 0, 0, NONE, NONE, 0) = 1", "show(0) = CAST", "fault() = 2", "tell(0) = 5",
                "fault() = 2", "show(1) = 100", "fault() = 0", "match(0, 0, 1, 0, 2) = INDEX", "fault() = 3", "build(0, 0, 0) = 1", "undo() = 3",
                "fault() = 3", "match(0, 0, 1, 0, 1) = 0", "fault() = 0", "match(0, 0, 1, 0, -1) = SIZE", "tray(0, 1) = 1", "fault() = 4",
                "taken(0) = 1", "fault() = 0", "taken(1) = CAST", "fault() = 2", "tray(5, 0) = OUTSIDE", "tray(0, 9) = UNKNOWN", "fault() = 2");
    }

    private static void told() {
        Edges.of(45, "How many: 0 TERMS, 1 PAGES, 2 PARTS, 3 HEADS that are, 4 MARKS that are, 5 ENTRIES, 6 signs of THE NAME, 7 TERMS PASSED,"
                        + " 8 acts that can be undone.",
                "told(0) = 0", "told(1) = 1", "told(2) = 0", "told(3) = 0", "told(4) = 0", "told(5) = 0", "told(6) = 0", "told(7) = 0",
                "told(8) = 0", "FILL 10", "told(0) = 10", "told(1) = 1", "put(0, 1) = 11", "told(1) = 2", "part(5, 1, 1, 0) = 1", "told(2) = 1",
                "HEADS 2", "told(3) = 2", "mark(0, 0, 0, 1, 1, 0) = 0", "told(4) = 1", "told(5) = 0", "build(0, 0, 0) = 3", "told(5) = 3",
                "drop(0) = 1", "told(4) = 0", "meld(0, 1) = 0", "told(3) = 1", "PASS abc = 1", "told(6) = 3", "told(7) = 1", "told(8) = 16");
        Edges.of(45, "OUTSIDE.",
                "REFUSED told(9) = OUTSIDE", "REFUSED told(-1) = OUTSIDE", "REFUSED told(LEAST) = OUTSIDE", "REFUSED told(MOST) = OUTSIDE",
                "FILL 2", "REFUSED told(9) = OUTSIDE", "told(8) = 2", "told(0) = 2");
    }

    private static void toldFull() {
        Edges.of(45, "How many: 0 TERMS, 1 PAGES, 2 PARTS, 3 HEADS that are, 4 MARKS that are, 5 ENTRIES, 6 signs of THE NAME, 7 TERMS PASSED,"
                        + " 8 acts that can be undone.",
                "FILL 300", "told(0) = 300", "told(1) = 30", "flow(1) = 10", "told(1) = 300", "flow(50) = 1", "told(1) = 6", "told(8) = 40",
                "put(0, 0) = FULL", "told(0) = 300", "part(0, 1, 1, 0) = 1", "part(1, 1, 1, 0) = 2", "part(2, 1, 1, 0) = 3", "part(3, 1, 1, 0) = 4",
                "part(4, 1, 1, 0) = 5", "part(5, 1, 1, 0) = 6", "part(6, 1, 1, 0) = 7", "part(7, 1, 1, 0) = 8", "told(2) = 8");
        Edges.of(45, "How many: 0 TERMS, 1 PAGES, 2 PARTS, 3 HEADS that are, 4 MARKS that are, 5 ENTRIES, 6 signs of THE NAME, 7 TERMS PASSED,"
                        + " 8 acts that can be undone.",
                "HEADS 30", "told(3) = 30", "told(8) = 30", "COUNT 50 mark(0, 0, 0, NONE, NONE, 0) = 0", "told(4) = 50", "told(8) = 40",
                "NAME abcdefghijklmnop", "told(6) = 16", "PASS a = 1", "PASS b = 2", "PASS c = 3", "PASS d = 4", "told(7) = 4");
    }
}
