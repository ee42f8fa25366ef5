/** Promises 21 to 26: marks, and what is told and shown of them. */
public final class MarkTest {
    public static void main(String[] args) {
        mark();
        markRefused();
        see();
        fifty();
        drop();
        marked();
        tell();
        show();
        Calls.end();
    }

    private static void mark() {
        Calls.run("21 mark",
                "HEAD a = 0", "HEAD b = 1", "HEAD c = 2", "FILL 3", "mark(0, 0, 0, NONE, NONE, 0) = 0",
                "mark(3, 1, 0, 1, NONE, 50) = 1", "mark(1, 2, 2, 1, 0, -1) = 2", "mark(1, 3, 1, 1, 1, 0) = 3",
                "mark(1, 4, 1, NONE, NONE, 1) = 4", "mark(1, 4, 1, NONE, NONE, 99) = 5", "mark(1, 5, 1, NONE, NONE, 7) = 6",
                "told(4) = 7", "marked(1, 2) = 0", "marked(1, 3) = 1", "marked(1, 4) = NONE", "marked(2, 2) = 2",
                "marked(2, 3) = 1", "marked(2, 4) = 0", "marked(0, 3) = NONE", "marked(3, 4) = 1", "marked(4, 5) = 1",
                "marked(5, 5) = 99", "marked(1, 5) = 0", "marked(2, 5) = 0", "marked(6, 5) = 0");
    }

    private static void markRefused() {
        Calls.run("21 mark: refused",
                "HEAD a = 0", "HEAD b = 1", "HEAD c = 2", "meld(2, 1) = 0", "FILL 2",
                "REFUSED mark(3, 0, 0, NONE, NONE, 0) = UNKNOWN", "REFUSED mark(-1, 0, 0, NONE, NONE, 0) = UNKNOWN",
                "REFUSED mark(0, 0, 3, NONE, NONE, 0) = UNKNOWN", "REFUSED mark(0, 0, NONE, NONE, NONE, 0) = UNKNOWN",
                "REFUSED mark(0, 0, 0, -1, NONE, 0) = UNKNOWN", "REFUSED mark(0, 0, 0, 2, NONE, 0) = UNKNOWN",
                "REFUSED mark(0, 0, 0, 1, 2, 0) = UNKNOWN", "REFUSED mark(0, 0, 0, 1, 30, 0) = UNKNOWN",
                "REFUSED mark(0, 0, 0, NONE, 2, 0) = UNKNOWN", "REFUSED mark(0, 9, 2, NONE, NONE, 0) = UNKNOWN",
                "REFUSED mark(0, -1, 0, NONE, NONE, 0) = OUTSIDE", "REFUSED mark(0, 6, 0, NONE, NONE, 0) = OUTSIDE",
                "REFUSED mark(0, 7, 0, 1, NONE, 0) = OUTSIDE", "REFUSED mark(0, 4, 0, NONE, NONE, 0) = OUTSIDE",
                "REFUSED mark(0, 4, 0, NONE, NONE, 100) = OUTSIDE", "REFUSED mark(0, 4, 0, NONE, 1, 0) = OUTSIDE",
                "REFUSED mark(0, 0, 0, NONE, 1, 0) = STATE", "REFUSED mark(0, 4, 0, NONE, 1, 5) = STATE",
                "mark(2, 0, 0, 1, NONE, 0) = 0");
    }

    private static void see() {
        Calls.run("22 see",
                "HEAD a = 0", "HEAD b = 1", "FILL 1", "see(0, 0, 1, false) = 0", "see(1, 1, 0, true) = 1",
                "see(1, 1, 0, true) = 2", "marked(0, 0) = 6", "marked(1, 0) = 7", "marked(1, 2) = 1", "marked(1, 3) = 0",
                "marked(1, 4) = NONE", "marked(1, 5) = 0", "marked(1, 1) = 1",
                "REFUSED see(2, 0, 1, false) = UNKNOWN", "REFUSED see(-1, 0, 1, false) = UNKNOWN",
                "REFUSED see(0, 2, 1, false) = UNKNOWN", "REFUSED see(0, 0, 2, true) = UNKNOWN",
                "REFUSED see(0, 5, 5, true) = UNKNOWN", "REFUSED see(0, NONE, 0, true) = UNKNOWN",
                "REFUSED see(0, 0, 0, false) = STATE", "REFUSED see(0, 1, 1, true) = STATE", "told(4) = 3");
    }

    private static void fifty() {
        String[] lines = new String[60];
        lines[0] = "HEAD a = 0";
        lines[1] = "HEAD b = 1";
        for (int m = 0; m < 50; m++) {
            lines[2 + m] = m % 2 == 0 ? "mark(0, 0, 0, NONE, NONE, 0) = " + m : "see(0, 0, 1, true) = " + m;
        }
        lines[52] = "mark(0, 0, 0, NONE, NONE, 0) = FULL";
        lines[53] = "see(0, 0, 1, false) = FULL";
        lines[54] = "see(0, 0, 0, false) = STATE";
        lines[55] = "mark(0, 6, 0, NONE, NONE, 0) = OUTSIDE";
        lines[56] = "drop(7) = 1";
        lines[57] = "mark(0, 0, 0, NONE, NONE, 0) = FULL";
        lines[58] = "undo() = 39";
        lines[59] = "undo() = 38";
        Calls.run("21, 22 marks: 50 ever", lines);
        String[] more = java.util.Arrays.copyOf(lines, 63);
        more[60] = "told(4) = 49";
        more[61] = "mark(0, 3, 1, NONE, NONE, 0) = 49";
        more[62] = "see(0, 0, 1, false) = FULL";
        Calls.run("21, 22 marks: the number of an undone mark is free", more);
    }

    private static void drop() {
        Calls.run("23 drop",
                "HEAD a = 0", "REFUSED drop(0) = UNKNOWN", "mark(0, 0, 0, NONE, NONE, 0) = 0",
                "mark(0, 3, 0, NONE, NONE, 0) = 1", "drop(0) = 1", "REFUSED drop(0) = UNKNOWN", "told(4) = 1",
                "marked(0, 0) = UNKNOWN", "marked(1, 0) = 3", "REFUSED drop(2) = UNKNOWN", "REFUSED drop(-1) = UNKNOWN",
                "REFUSED drop(50) = UNKNOWN", "REFUSED drop(MOST) = UNKNOWN", "mark(0, 5, 0, NONE, NONE, 0) = 2",
                "build(0, 0, 0) = 1", "PLACES 0 = M0 P0", "drop(1) = 1", "PLACES 0 = M0 P0", "build(0, 0, 0) = 1",
                "PLACES 0 = P0", "drop(2) = 1", "build(0, 0, 0) = 0");
    }

    private static void marked() {
        Calls.run("24 marked",
                "HEAD a = 0", "FILL 25", "mark(21, 4, 0, NONE, NONE, 12) = 0", "marked(0, 0) = 4", "marked(0, 1) = 21",
                "marked(0, 2) = 0", "marked(0, 3) = NONE", "marked(0, 4) = NONE", "marked(0, 5) = 12", "marked(0, 6) = 2",
                "marked(0, 7) = OUTSIDE", "marked(0, -1) = OUTSIDE", "marked(0, MOST) = OUTSIDE", "marked(1, 0) = UNKNOWN",
                "marked(1, 7) = UNKNOWN", "marked(-1, 0) = UNKNOWN", "take(0) = 0", "marked(0, 6) = 1", "drop(0) = 1",
                "marked(0, 0) = UNKNOWN", "marked(0, 9) = UNKNOWN");
    }

    private static void tell() {
        Calls.run("25 tell and 43 trace",
                "HEAD a = 0", "HEAD b = 1", "mark(0, 0, 0, NONE, NONE, 0) = 0", "mark(0, 1, 0, NONE, NONE, 0) = 1",
                "mark(0, 2, 0, NONE, NONE, 0) = 2", "mark(0, 3, 0, NONE, NONE, 0) = 3", "mark(0, 4, 0, NONE, NONE, 42) = 4",
                "mark(0, 5, 0, NONE, NONE, 0) = 5", "see(0, 0, 1, false) = 6", "see(0, 0, 1, true) = 7",
                "tell(0) = 1", "trace() = 1", "tell(1) = 1", "trace() = 32", "tell(2) = 1", "trace() = 993",
                "tell(3) = 10", "trace() = " + ((993 * 31 + 2) * 31 + 1), "REFUSED tell(8) = UNKNOWN",
                "REFUSED tell(-1) = UNKNOWN", "fault() = 0", "trace() = " + ((993 * 31 + 2) * 31 + 1));
        Calls.run("25 tell: of a NOTE, a PICTURE, a SEE, an ALSO",
                "HEAD a = 0", "HEAD b = 1", "mark(0, 4, 0, NONE, NONE, 42) = 0", "mark(0, 5, 0, NONE, NONE, 0) = 1",
                "see(0, 0, 1, false) = 2", "see(0, 0, 1, true) = 3", "tell(0) = 43", "trace() = " + (3 * 31 + 1),
                "tell(1) = 1", "trace() = " + ((3 * 31 + 1) * 31 + 1), "tell(2) = 5",
                "trace() = " + (((3 * 31 + 1) * 31 + 1) * 31 + 4), "tell(3) = 6",
                "trace() = " + (((((3 * 31 + 1) * 31 + 1) * 31 + 4) * 31 + 5) * 31 + 4), "drop(3) = 1",
                "REFUSED tell(3) = UNKNOWN", "tell(0) = 43", "tell(0) = 43", "tell(0) = 43",
                "trace() = " + wrapped());
    }

    private static int wrapped() {
        int trace = 0;
        for (int body : new int[] {3, 1, 1, 4, 5, 4, 3, 1, 3, 1, 3, 1}) {
            trace = trace * 31 + body;
        }
        return trace;
    }

    private static void show() {
        Calls.run("26 show",
                "HEAD a = 0", "HEAD b = 1", "FILL 5", "mark(0, 0, 0, NONE, NONE, 0) = 0", "mark(1, 1, 0, NONE, NONE, 0) = 1",
                "mark(2, 2, 0, NONE, NONE, 0) = 2", "mark(3, 3, 0, NONE, NONE, 0) = 3", "mark(4, 4, 0, NONE, NONE, 42) = 4",
                "mark(5, 5, 0, NONE, NONE, 0) = 5", "see(0, 0, 1, false) = 6", "see(0, 0, 1, true) = 7",
                "show(0) = 100", "trace() = 6", "show(1) = 101", "show(2) = 102", "show(4) = 104", "show(5) = 105",
                "trace() = " + ((((6 * 31 + 6) * 31 + 6) * 31 + 6) * 31 + 6), "show(3) = 203",
                "trace() = " + (((((6 * 31 + 6) * 31 + 6) * 31 + 6) * 31 + 6) * 31 + 7),
                "REFUSED show(6) = CAST", "fault() = 2", "REFUSED show(7) = CAST", "fault() = 2", "REFUSED show(8) = UNKNOWN",
                "fault() = 0", "show(7) = CAST", "fault() = 2", "tell(0) = 1", "fault() = 2", "show(0) = 100", "fault() = 0",
                "show(6) = CAST", "drop(6) = 1", "show(6) = UNKNOWN", "fault() = 0", "show(-1) = UNKNOWN",
                "put(0, 1) = 6", "show(3) = 204");
    }
}
