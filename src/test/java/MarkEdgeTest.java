import java.io.IOException;

/** The edges of promises 21 to 26, each by the words that name it. */
public final class MarkEdgeTest {
    public static void main(String[] args) throws IOException {
        mark();
        markUnknown();
        markOutside();
        markRest();
        see();
        seeRefused();
        drop();
        marked();
        tell();
        show();
        Edges.end(args, 21, 26);
    }

    private static void mark() {
        String words = "A MARK of kind 0 .. 5 at a GAP, with a PATH (b, c NONE: no more HEADS): its number.";
        Edges.of(21, words,
                "HEAD a = 0", "mark(0, 0, 0, NONE, NONE, 0) = 0", "FILL 3", "mark(3, 5, 0, NONE, NONE, 0) = 1",
                "mark(0, 1, 0, 0, NONE, 0) = 2", "mark(0, 2, 0, 0, 0, 0) = 3", "mark(0, 3, 0, NONE, NONE, 0) = 4",
                "mark(0, 4, 0, NONE, NONE, 1) = 5", "marked(0, 0) = 0", "marked(1, 0) = 5", "marked(1, 1) = 3", "marked(2, 0) = 1",
                "marked(2, 3) = 0", "marked(2, 4) = NONE", "marked(3, 0) = 2", "marked(3, 4) = 0", "marked(4, 0) = 3", "marked(4, 3) = NONE",
                "marked(5, 0) = 4");
        Edges.of(21, words,
                "HEADS 30", "mark(0, 0, 29, 28, 27, 0) = 0", "mark(0, 0, 0, 29, NONE, 0) = 1", "mark(0, 0, 0, 0, 29, 0) = 2",
                "marked(0, 2) = 29", "marked(0, 3) = 28", "marked(0, 4) = 27", "marked(1, 2) = 0", "marked(1, 3) = 29",
                "marked(1, 4) = NONE", "marked(2, 2) = 0", "marked(2, 3) = 0", "marked(2, 4) = 29");
        Edges.of(21, words,
                "FILL 300", "HEAD a = 0", "mark(300, 0, 0, NONE, NONE, 0) = 0", "marked(0, 1) = 300", "marked(0, 6) = 29",
                "mark(301, 0, 0, NONE, NONE, 0) = UNKNOWN", "flow(1) = 10", "marked(0, 6) = 299");
    }

    private static void markUnknown() {
        String words = "UNKNOWN: no such GAP; a HEAD that is looked at";
        Edges.of(21, words,
                "HEAD a = 0", "REFUSED mark(1, 0, 0, NONE, NONE, 0) = UNKNOWN", "REFUSED mark(-1, 0, 0, NONE, NONE, 0) = UNKNOWN",
                "mark(0, 0, 0, NONE, NONE, 0) = 0", "FILL 2", "REFUSED mark(3, 0, 0, NONE, NONE, 0) = UNKNOWN",
                "REFUSED mark(LEAST, 0, 0, NONE, NONE, 0) = UNKNOWN", "REFUSED mark(MOST, 0, 0, NONE, NONE, 0) = UNKNOWN",
                "mark(2, 0, 0, NONE, NONE, 0) = 1", "take(0) = 0", "REFUSED mark(2, 0, 0, NONE, NONE, 0) = UNKNOWN");
        Edges.of(21, words,
                "REFUSED mark(0, 0, 0, NONE, NONE, 0) = UNKNOWN", "HEADS 3", "meld(2, 1) = 0",
                "REFUSED mark(0, 0, 3, NONE, NONE, 0) = UNKNOWN", "REFUSED mark(0, 0, 2, NONE, NONE, 0) = UNKNOWN",
                "REFUSED mark(0, 0, -1, NONE, NONE, 0) = UNKNOWN", "REFUSED mark(0, 0, NONE, NONE, NONE, 0) = UNKNOWN",
                "REFUSED mark(0, 0, NONE, 0, 0, 0) = UNKNOWN", "REFUSED mark(0, 0, 30, NONE, NONE, 0) = UNKNOWN",
                "REFUSED mark(0, 0, LEAST, NONE, NONE, 0) = UNKNOWN", "REFUSED mark(0, 0, MOST, NONE, NONE, 0) = UNKNOWN",
                "mark(0, 0, 1, NONE, NONE, 0) = 0");
        Edges.of(21, words,
                "HEADS 3", "meld(2, 1) = 0", "REFUSED mark(0, 0, 0, 3, NONE, 0) = UNKNOWN", "REFUSED mark(0, 0, 0, 2, NONE, 0) = UNKNOWN",
                "REFUSED mark(0, 0, 0, -1, NONE, 0) = UNKNOWN", "REFUSED mark(0, 0, 0, -8, NONE, 0) = UNKNOWN",
                "REFUSED mark(0, 0, 0, -10, NONE, 0) = UNKNOWN", "REFUSED mark(0, 0, 0, LEAST, NONE, 0) = UNKNOWN",
                "REFUSED mark(0, 0, 0, MOST, 1, 0) = UNKNOWN", "REFUSED mark(0, 0, 0, 2, 1, 0) = UNKNOWN",
                "mark(0, 0, 0, 1, NONE, 0) = 0");
        Edges.of(21, words,
                "HEADS 3", "meld(2, 1) = 0", "REFUSED mark(0, 0, 0, 1, 3, 0) = UNKNOWN", "REFUSED mark(0, 0, 0, 1, 2, 0) = UNKNOWN",
                "REFUSED mark(0, 0, 0, 1, -1, 0) = UNKNOWN", "REFUSED mark(0, 0, 0, 1, -8, 0) = UNKNOWN",
                "REFUSED mark(0, 0, 0, 1, -10, 0) = UNKNOWN", "REFUSED mark(0, 0, 0, 1, LEAST, 0) = UNKNOWN",
                "REFUSED mark(0, 0, 0, 1, MOST, 0) = UNKNOWN", "REFUSED mark(0, 0, 0, NONE, 2, 0) = UNKNOWN",
                "mark(0, 0, 0, 1, 1, 0) = 0");
    }

    private static void markOutside() {
        String words = "OUTSIDE: kind; of a NOTE the note";
        Edges.of(21, words,
                "HEAD a = 0", "REFUSED mark(0, -1, 0, NONE, NONE, 1) = OUTSIDE", "REFUSED mark(0, 6, 0, NONE, NONE, 1) = OUTSIDE",
                "REFUSED mark(0, 7, 0, 0, NONE, 1) = OUTSIDE", "REFUSED mark(0, LEAST, 0, NONE, NONE, 1) = OUTSIDE",
                "REFUSED mark(0, MOST, 0, NONE, NONE, 1) = OUTSIDE", "mark(0, 0, 0, NONE, NONE, 1) = 0", "mark(0, 5, 0, NONE, NONE, 1) = 1");
        Edges.of(21, words,
                "HEAD a = 0", "REFUSED mark(0, 4, 0, NONE, NONE, 0) = OUTSIDE", "REFUSED mark(0, 4, 0, NONE, NONE, 100) = OUTSIDE",
                "REFUSED mark(0, 4, 0, NONE, NONE, -1) = OUTSIDE", "REFUSED mark(0, 4, 0, NONE, NONE, LEAST) = OUTSIDE",
                "REFUSED mark(0, 4, 0, NONE, NONE, MOST) = OUTSIDE", "mark(0, 4, 0, NONE, NONE, 1) = 0",
                "mark(0, 4, 0, NONE, NONE, 99) = 1", "marked(0, 5) = 1", "marked(1, 5) = 99");
        Edges.of(21, words,
                "HEAD a = 0", "mark(0, 0, 0, NONE, NONE, 100) = 0", "mark(0, 1, 0, NONE, NONE, -1) = 1", "mark(0, 2, 0, NONE, NONE, LEAST) = 2",
                "mark(0, 3, 0, NONE, NONE, MOST) = 3", "mark(0, 5, 0, NONE, NONE, 50) = 4", "marked(0, 5) = 0", "marked(1, 5) = 0",
                "marked(2, 5) = 0", "marked(3, 5) = 0", "marked(4, 5) = 0");
    }

    private static void markRest() {
        Edges.of(21, "STATE: b NONE and c not",
                "HEADS 2", "REFUSED mark(0, 0, 0, NONE, 1, 0) = STATE", "REFUSED mark(0, 4, 0, NONE, 0, 1) = STATE",
                "REFUSED mark(0, 5, 1, NONE, 1, 0) = STATE", "mark(0, 0, 0, NONE, NONE, 0) = 0", "mark(0, 0, 0, 1, NONE, 0) = 1",
                "mark(0, 0, 0, 1, 1, 0) = 2");
        Edges.of(21, "FULL.",
                "HEADS 2", "COUNT 25 mark(0, 0, 0, NONE, NONE, 0) = 0", "COUNT 24 see(0, 0, 1, true) = 25", "mark(0, 4, 1, 1, 1, 99) = 49",
                "REFUSED mark(0, 0, 0, NONE, NONE, 0) = FULL", "REFUSED mark(0, 4, 1, 1, 1, 99) = FULL", "drop(0) = 1", "drop(49) = 1",
                "REFUSED mark(0, 0, 0, NONE, NONE, 0) = FULL", "undo() = 39", "undo() = 38", "undo() = 37", "told(4) = 49",
                "mark(0, 3, 1, NONE, NONE, 0) = 49", "marked(49, 0) = 3", "REFUSED mark(0, 0, 0, NONE, NONE, 0) = FULL");
    }

    private static void see() {
        String words = "A SEE (isAlso: an ALSO) at a GAP: its number.";
        Edges.of(22, words,
                "HEADS 30", "see(0, 0, 29, false) = 0", "see(0, 29, 0, true) = 1", "FILL 2", "see(2, 28, 29, true) = 2", "marked(0, 0) = 6",
                "marked(0, 2) = 0", "marked(0, 3) = 29", "marked(0, 4) = NONE", "marked(0, 5) = 0", "marked(1, 0) = 7", "marked(1, 2) = 29",
                "marked(1, 3) = 0", "marked(2, 1) = 2", "marked(2, 0) = 7", "see(0, 0, 29, false) = 3", "told(4) = 4");
    }

    private static void seeRefused() {
        Edges.of(22, "UNKNOWN: GAP, HEADS",
                "HEADS 3", "meld(2, 1) = 0", "REFUSED see(1, 0, 1, false) = UNKNOWN", "REFUSED see(-1, 0, 1, true) = UNKNOWN",
                "FILL 2", "REFUSED see(3, 0, 1, false) = UNKNOWN", "REFUSED see(MOST, 0, 1, false) = UNKNOWN",
                "REFUSED see(LEAST, 0, 1, false) = UNKNOWN", "see(2, 0, 1, false) = 0", "see(0, 0, 1, false) = 1");
        Edges.of(22, "UNKNOWN: GAP, HEADS",
                "HEADS 3", "meld(2, 1) = 0", "REFUSED see(0, 3, 1, false) = UNKNOWN", "REFUSED see(0, 2, 1, false) = UNKNOWN",
                "REFUSED see(0, -1, 1, true) = UNKNOWN", "REFUSED see(0, NONE, 1, true) = UNKNOWN", "REFUSED see(0, 30, 1, true) = UNKNOWN",
                "REFUSED see(0, MOST, 1, true) = UNKNOWN", "REFUSED see(0, 0, 3, false) = UNKNOWN", "REFUSED see(0, 0, 2, false) = UNKNOWN",
                "REFUSED see(0, 0, -1, true) = UNKNOWN", "REFUSED see(0, 0, NONE, true) = UNKNOWN", "REFUSED see(0, 0, LEAST, true) = UNKNOWN",
                "REFUSED see(0, 2, 2, false) = UNKNOWN", "REFUSED see(0, 3, 3, false) = UNKNOWN", "see(0, 0, 1, true) = 0");
        Edges.of(22, "STATE: to itself",
                "HEADS 2", "REFUSED see(0, 0, 0, false) = STATE", "REFUSED see(0, 1, 1, true) = STATE", "see(0, 0, 1, false) = 0",
                "see(0, 1, 0, true) = 1", "REFUSED see(0, 0, 0, true) = STATE");
        Edges.of(22, "FULL.",
                "HEADS 2", "COUNT 49 mark(0, 0, 0, NONE, NONE, 0) = 0", "see(0, 0, 1, false) = 49", "REFUSED see(0, 0, 1, false) = FULL",
                "REFUSED see(0, 1, 0, true) = FULL", "REFUSED see(0, 1, 1, true) = STATE", "REFUSED see(1, 1, 0, true) = UNKNOWN",
                "drop(3) = 1", "REFUSED see(0, 0, 1, false) = FULL", "undo() = 39", "undo() = 38", "see(0, 1, 0, true) = 49");
    }

    private static void drop() {
        Edges.of(23, "A MARK is gone: 1.",
                "HEADS 2", "COUNT 50 mark(0, 0, 0, NONE, NONE, 0) = 0", "drop(49) = 1", "drop(0) = 1", "told(4) = 48", "marked(49, 0) = UNKNOWN",
                "marked(0, 0) = UNKNOWN", "marked(1, 0) = 0", "marked(48, 0) = 0", "undo() = 39", "marked(0, 0) = 0",
                "marked(49, 0) = UNKNOWN", "told(4) = 49");
        Edges.of(23, "UNKNOWN.",
                "REFUSED drop(0) = UNKNOWN", "HEADS 2", "mark(0, 0, 0, NONE, NONE, 0) = 0", "see(0, 0, 1, true) = 1",
                "REFUSED drop(2) = UNKNOWN", "REFUSED drop(-1) = UNKNOWN", "REFUSED drop(50) = UNKNOWN", "REFUSED drop(LEAST) = UNKNOWN",
                "REFUSED drop(MOST) = UNKNOWN", "drop(1) = 1", "REFUSED drop(1) = UNKNOWN", "drop(0) = 1", "REFUSED drop(0) = UNKNOWN",
                "undo() = 5", "drop(0) = 1");
    }

    private static void marked() {
        Edges.of(24, "Of a MARK: 0 its kind, 1 its GAP, 2, 3, 4 its HEADS (of SEE, ALSO: from, to; NONE), 5 its note (0), 6 its PAGE.",
                "HEADS 3", "FILL 11", "mark(10, 4, 2, 1, 0, 99) = 0", "mark(11, 0, 1, NONE, NONE, 99) = 1", "see(0, 2, 1, true) = 2",
                "marked(0, 0) = 4", "marked(0, 1) = 10", "marked(0, 2) = 2", "marked(0, 3) = 1", "marked(0, 4) = 0", "marked(0, 5) = 99",
                "marked(0, 6) = 0", "marked(1, 2) = 1", "marked(1, 3) = NONE", "marked(1, 4) = NONE", "marked(1, 5) = 0", "marked(1, 6) = 1",
                "marked(2, 0) = 7", "marked(2, 1) = 0", "marked(2, 2) = 2", "marked(2, 3) = 1", "marked(2, 4) = NONE", "marked(2, 5) = 0",
                "marked(2, 6) = 0");
        Edges.of(24, "UNKNOWN; OUTSIDE.",
                "REFUSED marked(0, 0) = UNKNOWN", "HEAD a = 0", "mark(0, 0, 0, NONE, NONE, 0) = 0", "REFUSED marked(0, 7) = OUTSIDE",
                "REFUSED marked(0, -1) = OUTSIDE", "REFUSED marked(0, LEAST) = OUTSIDE", "REFUSED marked(0, MOST) = OUTSIDE",
                "REFUSED marked(1, 0) = UNKNOWN", "REFUSED marked(-1, 0) = UNKNOWN", "REFUSED marked(50, 0) = UNKNOWN",
                "REFUSED marked(LEAST, 0) = UNKNOWN", "REFUSED marked(MOST, 0) = UNKNOWN", "REFUSED marked(1, 7) = UNKNOWN",
                "drop(0) = 1", "REFUSED marked(0, 6) = UNKNOWN", "REFUSED marked(0, 7) = UNKNOWN");
    }

    private static void tell() {
        Edges.of(25, "TOLD of a MARK.",
                "HEADS 2", "COUNT 49 mark(0, 0, 0, NONE, NONE, 0) = 0", "mark(0, 4, 0, NONE, NONE, 99) = 49", "tell(0) = 1", "trace() = 1",
                "tell(49) = 100", "trace() = 1055");
        Edges.of(25, "UNKNOWN.",
                "REFUSED tell(0) = UNKNOWN", "HEAD a = 0", "mark(0, 3, 0, NONE, NONE, 0) = 0", "tell(0) = 10", "REFUSED tell(1) = UNKNOWN",
                "REFUSED tell(-1) = UNKNOWN", "REFUSED tell(50) = UNKNOWN", "REFUSED tell(LEAST) = UNKNOWN", "REFUSED tell(MOST) = UNKNOWN",
                "trace() = 63", "drop(0) = 1", "REFUSED tell(0) = UNKNOWN", "trace() = 63");
    }

    private static void show() {
        Edges.of(26, "What a MARK is SHOWN as.",
                "HEADS 2", "FILL 300", "mark(0, 0, 0, NONE, NONE, 0) = 0", "mark(300, 5, 0, NONE, NONE, 0) = 1",
                "mark(0, 3, 0, NONE, NONE, 0) = 2", "mark(300, 3, 0, NONE, NONE, 0) = 3", "show(0) = 100", "show(1) = 400", "show(2) = 200",
                "show(3) = 500", "fault() = 0", "take(0) = 0", "show(3) = 499", "undo() = 39", "show(3) = 500");
        Edges.of(26, "UNKNOWN",
                "REFUSED show(0) = UNKNOWN", "HEADS 2", "mark(0, 0, 0, NONE, NONE, 0) = 0", "see(0, 0, 1, false) = 1",
                "REFUSED show(2) = UNKNOWN", "REFUSED show(-1) = UNKNOWN", "REFUSED show(50) = UNKNOWN", "REFUSED show(LEAST) = UNKNOWN",
                "REFUSED show(MOST) = UNKNOWN", "drop(0) = 1", "REFUSED show(0) = UNKNOWN", "show(1) = CAST", "drop(1) = 1",
                "REFUSED show(1) = UNKNOWN", "fault() = 0", "trace() = 0");
        Edges.of(26, "CAST: a SEE, an ALSO.",
                "HEADS 2", "see(0, 0, 1, false) = 0", "see(0, 0, 1, true) = 1", "mark(0, 5, 0, NONE, NONE, 0) = 2",
                "REFUSED show(0) = CAST", "fault() = 2", "REFUSED show(1) = CAST", "fault() = 2", "trace() = 0", "show(2) = 100", "fault() = 0",
                "trace() = 6", "REFUSED show(1) = CAST", "fault() = 2", "trace() = 6");
    }
}
