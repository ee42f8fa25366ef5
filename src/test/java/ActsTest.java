/** Promises 39 to 45: acts undone, the tray, rows of signs that match, trace, faults, what is told. */
public final class ActsTest {
    public static void main(String[] args) {
        undoWords();
        undoHeads();
        undoMarks();
        undoNotActs();
        undoForty();
        tray();
        taken();
        match();
        matchFaults();
        trace();
        fault();
        told();
        constants();
        Calls.end();
    }

    private static void undoWords() {
        Calls.run("39 undo: put, take, move, with their marks",
                "REFUSED undo() = STATE", "FILL 5", "HEAD a = 0", "mark(1, 0, 0, NONE, NONE, 0) = 0",
                "mark(2, 0, 0, NONE, NONE, 0) = 1", "mark(5, 0, 0, NONE, NONE, 0) = 2",
                "take(1) = 1", "GAPS = 1 1 4", "put(1, 77) = 5", "GAPS = 1 1 5", "move(0, 2, 3) = 2", "WORDS = 2 3 4 0 77",
                "GAPS = 4 4 3", "undo() = 11", "WORDS = 0 77 2 3 4", "GAPS = 1 1 5", "undo() = 10", "WORDS = 0 2 3 4",
                "GAPS = 1 1 4", "undo() = 9", "WORDS = 0 1 2 3 4", "GAPS = 1 2 5", "told(8) = 9", "undo() = 8", "undo() = 7",
                "undo() = 6", "told(4) = 0", "undo() = 5", "told(3) = 0", "undo() = 4", "WORDS = 0 1 2 3", "undo() = 3",
                "undo() = 2", "undo() = 1", "undo() = 0", "WORDS = ", "REFUSED undo() = STATE", "told(8) = 0");
    }

    private static void undoHeads() {
        Calls.run("39 undo: head, sortAs, rename, meld",
                "HEAD a = 0", "HEAD b = 1", "SORT 0 x", "SORT 0 yy", "NAME c", "rename(0) = 1", "rename(1) = STATE",
                "see(0, 0, 1, true) = 0", "mark(0, 0, 0, 0, 1, 0) = 1", "drop(0) = 1", "meld(0, 1) = 1", "told(3) = 1",
                "undo() = 8", "told(3) = 2", "SIGNS 0 = yy", "sign(0, 0, 0) = 99", "marked(1, 2) = 0", "marked(1, 3) = 0",
                "marked(1, 4) = 1", "undo() = 7", "marked(0, 0) = 7", "marked(0, 2) = 0", "undo() = 6", "undo() = 5",
                "marked(0, 0) = UNKNOWN", "undo() = 4", "sign(0, 0, 0) = 97", "undo() = 3", "SIGNS 0 = x", "undo() = 2",
                "SIGNS 0 = a", "undo() = 1", "about(1, 0) = UNKNOWN", "NAME q", "head() = 1", "undo() = 1", "undo() = 0",
                "told(3) = 0", "NAME r", "head() = 0", "SIGNS 0 = r");
        Calls.run("39 undo: a head is sorted by its own signs again",
                "HEAD a = 0", "HEAD b = 1", "SORT 0 z", "unname() = 1", "sortAs(0) = 1", "undo() = 3", "SIGNS 0 = z", "undo() = 2",
                "SIGNS 0 = a", "undo() = 1", "NAME b", "head() = 1", "told(8) = 2");
    }

    private static void undoMarks() {
        Calls.run("39 undo: mark, see, drop, and their numbers",
                "HEAD a = 0", "HEAD b = 1", "FILL 3", "mark(3, 4, 0, 1, NONE, 9) = 0", "see(2, 1, 0, false) = 1", "drop(0) = 1",
                "take(0) = 0", "undo() = 8", "undo() = 7", "marked(0, 0) = 4", "marked(0, 1) = 3", "marked(0, 5) = 9",
                "marked(0, 3) = 1", "undo() = 6", "marked(1, 0) = UNKNOWN", "told(4) = 1", "mark(0, 3, 1, NONE, NONE, 0) = 1",
                "marked(1, 0) = 3", "undo() = 6", "undo() = 5", "told(4) = 0", "see(1, 0, 1, true) = 0", "marked(0, 0) = 7");
    }

    private static void undoNotActs() {
        Calls.run("39 undo: what is no act stays",
                "FILL 2", "HEAD a = 0", "told(8) = 3", "flow(7) = 10", "part(0, 0, 4, 0) = 1", "PASS the = 1", "build(0, 0, 0) = 0",
                "tray(0, 0) = 1", "move(0, 0, 0) = 0", "put(9, 1) = OUTSIDE", "take(9) = UNKNOWN", "drop(0) = UNKNOWN",
                "move(1, 1, 1) = 1", "told(8) = 4", "undo() = 3", "undo() = 2", "told(3) = 0", "undo() = 1", "flow(7) = 7",
                "LABEL 0 = iv", "told(7) = 1", "told(6) = 3", "told(2) = 1", "taken(0) = 0", "WORDS = 0");
        Calls.run("39 undo: the index and trace stay",
                "HEAD a = 0", "mark(0, 3, 0, NONE, NONE, 0) = 0", "tell(0) = 10", "build(0, 0, 0) = 1", "undo() = 1", "PATHS = 0",
                "PLACES 0 = M0", "changed() = 1", "trace() = 63", "build(0, 0, 0) = 0", "changed() = 1");
    }

    private static void undoForty() {
        String[] lines = new String[2 + 40 + 6];
        lines[0] = "FILL 45";
        lines[1] = "told(8) = 40";
        for (int k = 0; k < 40; k++) {
            lines[2 + k] = "undo() = " + (39 - k);
        }
        lines[42] = "undo() = STATE";
        lines[43] = "WORDS = 0 1 2 3 4";
        lines[44] = "put(5, 9) = 6";
        lines[45] = "undo() = 0";
        lines[46] = "WORDS = 0 1 2 3 4";
        lines[47] = "undo() = STATE";
        Calls.run("39 undo: the latest 40 are kept", lines);
        Calls.run("39 undo: acts behind undone ones",
                "FILL 39", "told(8) = 39", "undo() = 38", "undo() = 37", "FILL 5", "told(8) = 40", "undo() = 39", "told(0) = 41",
                "put(0, 100) = 42", "undo() = 39", "undo() = 38", "word(40) = UNKNOWN", "word(39) = 2", "word(0) = 0");
    }

    private static void tray() {
        Calls.run("40 tray",
                "HEAD a = 0", "HEAD b = 1", "mark(0, 0, 0, NONE, NONE, 0) = 0", "FILL 11", "tray(0, 1) = 1", "taken(0) = 1",
                "tray(1, 0) = 1", "taken(1) = 0", "tray(2, 1) = 1", "taken(2) = 1",
                "REFUSED tray(2, 2) = UNKNOWN", "REFUSED tray(2, -1) = UNKNOWN", "REFUSED tray(1, 1) = UNKNOWN",
                "REFUSED tray(1, -1) = UNKNOWN", "REFUSED tray(0, 2) = UNKNOWN", "REFUSED tray(0, -1) = UNKNOWN",
                "REFUSED tray(-1, 0) = OUTSIDE", "REFUSED tray(4, 0) = OUTSIDE", "REFUSED tray(4, 99) = OUTSIDE",
                "taken(2) = 1", "drop(0) = 1", "REFUSED tray(1, 0) = UNKNOWN", "meld(0, 1) = 0", "REFUSED tray(0, 0) = UNKNOWN",
                "tray(3, -99) = 1", "taken(2) = NULL", "tray(3, 0) = 1");
    }

    private static void taken() {
        Calls.run("41 taken",
                "REFUSED taken(0) = NULL", "fault() = 1", "REFUSED taken(2) = NULL", "REFUSED taken(3) = OUTSIDE", "fault() = 0",
                "taken(1) = NULL", "REFUSED taken(-1) = OUTSIDE", "fault() = 0", "tray(2, 0) = 1", "fault() = 0",
                "REFUSED taken(0) = CAST", "fault() = 2", "REFUSED taken(1) = CAST", "REFUSED taken(3) = OUTSIDE", "fault() = 0",
                "taken(0) = CAST", "taken(2) = 0", "fault() = 0");
        Calls.run("41 taken: what is gone since stays in the tray",
                "HEAD a = 0", "HEAD b = 1", "mark(0, 0, 0, NONE, NONE, 0) = 0", "FILL 25", "tray(0, 0) = 1", "meld(0, 1) = 1",
                "taken(0) = 0", "taken(1) = CAST", "tray(1, 0) = 1", "drop(0) = 1", "taken(1) = 0", "tray(2, 2) = 1",
                "flow(50) = 10", "told(1) = 1", "taken(2) = 2");
    }

    private static void match() {
        Calls.run("42 match",
                "HEAD abcabc = 0", "HEAD xbcA = 1", "SORT 0 zzzzzzzzzz", "match(0, 1, 1, 1, 2) = 1", "match(0, 0, 0, 3, 3) = 1",
                "match(0, 0, 0, 1, 3) = 0", "match(0, 0, 1, 3, 1) = 0", "match(0, 5, 1, 2, 1) = 1", "match(0, 0, 0, 0, 6) = 1",
                "match(0, 4, 1, 1, 2) = 1", "match(0, 3, 1, 1, 2) = 0", "match(0, 0, 1, 0, 0) = 1", "match(0, 6, 1, 4, 0) = 1",
                "match(1, 0, 1, 0, 4) = 1", "match(0, 0, 1, 0, 4) = 0", "fault() = 0");
    }

    private static void matchFaults() {
        Calls.run("42 match: refused, faults",
                "HEAD abcabc = 0", "HEAD xbcA = 1", "SORT 1 zzzzzzzzzz", "match(0, 0, 0, 0, 7) = INDEX", "fault() = 3",
                "REFUSED match(2, 0, 0, 0, 1) = UNKNOWN", "fault() = 0", "REFUSED match(0, 0, 2, 0, -1) = UNKNOWN",
                "REFUSED match(-1, 0, 0, 0, 1) = UNKNOWN", "REFUSED match(0, 0, 1, 0, -1) = SIZE", "fault() = 4",
                "REFUSED match(0, 9, 1, 9, LEAST) = SIZE", "REFUSED match(0, 0, 1, 0, 5) = INDEX", "fault() = 3",
                "REFUSED match(1, 0, 0, 0, 5) = INDEX", "REFUSED match(0, 4, 0, 0, 3) = INDEX", "REFUSED match(0, 0, 0, 4, 3) = INDEX",
                "REFUSED match(0, -1, 0, 0, 1) = INDEX", "REFUSED match(0, 0, 0, -1, 1) = INDEX",
                "REFUSED match(0, 0, 0, 0, MOST) = INDEX", "REFUSED match(0, MOST, 0, 0, MOST) = INDEX",
                "REFUSED match(0, 0, 0, MOST, 1) = INDEX", "REFUSED match(0, 7, 0, 0, 0) = INDEX",
                "REFUSED match(0, 0, 1, 5, 0) = INDEX", "fault() = 3", "match(0, 0, 1, 0, 1) = 0", "fault() = 0",
                "meld(0, 1) = 0", "match(0, 0, 1, 0, 1) = UNKNOWN", "match(1, 0, 0, 0, 1) = UNKNOWN");
    }

    private static void trace() {
        String[] lines = new String[24];
        lines[0] = "HEAD a = 0";
        lines[1] = "mark(0, 3, 0, NONE, NONE, 0) = 0";
        int trace = 0;
        for (int k = 2; k < lines.length; k += 2) {
            boolean isTold = k % 4 == 0;
            lines[k] = isTold ? "tell(0) = 10" : "show(0) = 200";
            trace = isTold ? (trace * 31 + 2) * 31 + 1 : trace * 31 + 7;
            lines[k + 1] = "trace() = " + trace;
        }
        Calls.run("43 trace wraps", lines);
    }

    private static void fault() {
        Calls.run("44 fault: of the latest call that names one",
                "fault() = 0", "move(0, 1, 0) = INDEX", "fault() = 3", "put(9, 9) = OUTSIDE", "fault() = 3", "undo() = STATE",
                "fault() = 3", "tray(9, 9) = OUTSIDE", "fault() = 3", "taken(9) = OUTSIDE", "fault() = 0", "move(0, -1, 0) = SIZE",
                "fault() = 4", "match(0, 0, 0, 0, 0) = UNKNOWN", "fault() = 0", "taken(0) = NULL", "fault() = 1", "fault() = 1",
                "move(0, 0, 0) = 0", "fault() = 0", "taken(0) = NULL", "show(0) = UNKNOWN", "fault() = 0");
    }

    private static void told() {
        Calls.run("45 told",
                "FILL 21", "part(1, 1, 1, 0) = 1", "part(2, 1, 1, 0) = 2", "HEAD a = 0", "HEAD b = 1", "HEAD c = 2",
                "mark(0, 0, 0, 1, NONE, 0) = 0", "mark(0, 0, 0, 1, NONE, 0) = 1", "drop(0) = 1", "meld(2, 1) = 0",
                "build(0, 0, 0) = 2", "PASS the = 1", "told(0) = 21", "told(1) = 3", "told(2) = 2", "told(3) = 2", "told(4) = 1",
                "told(5) = 2", "told(6) = 3", "told(7) = 1", "told(8) = 28", "told(9) = OUTSIDE", "told(-1) = OUTSIDE",
                "told(MOST) = OUTSIDE", "take(20) = 20", "told(1) = 2");
    }

    private static void constants() {
        Calls.check(BackIndex.UNKNOWN == -1 && BackIndex.OUTSIDE == -2 && BackIndex.STATE == -3 && BackIndex.FULL == -4
                && BackIndex.NONE == -9, "the constants are not as told");
    }
}
