/** Promises 1 to 10: a new object, the words, the pages and their labels. */
public final class BookTest {
    public static void main(String[] args) {
        newObject();
        put();
        take();
        move();
        moveWithMarks();
        flow();
        part();
        labels();
        labelled();
        Calls.end();
    }

    private static void newObject() {
        Calls.run("1 a new object",
                "told(0) = 0", "told(1) = 1", "told(2) = 0", "told(3) = 0", "told(4) = 0", "told(5) = 0",
                "told(6) = 0", "told(7) = 0", "told(8) = 0", "trace() = 0", "fault() = 0",
                "word(0) = UNKNOWN", "about(0, 0) = UNKNOWN", "marked(0, 0) = UNKNOWN", "entry(0, 0) = UNKNOWN",
                "unmatched() = 0", "led(0) = 0", "led(1) = 0", "led(2) = 0", "changed() = 0",
                "label(0) = 1", "labelSign(0, 0) = 49", "taken(0) = NULL", "undo() = STATE", "flow(10) = 10");
    }

    private static void put() {
        Calls.run("2 put",
                "put(0, 0) = 1", "put(1, 9999) = 2", "put(0, 7) = 3", "put(2, 8) = 4", "WORDS = 7 0 8 9999",
                "REFUSED put(-1, 1) = OUTSIDE", "REFUSED put(5, 1) = OUTSIDE", "REFUSED put(0, -1) = OUTSIDE",
                "REFUSED put(0, 10000) = OUTSIDE", "REFUSED put(MOST, 1) = OUTSIDE", "REFUSED put(LEAST, 1) = OUTSIDE",
                "WORDS = 7 0 8 9999");
        Calls.run("2 put with marks: those at the place stay, those behind it go one on",
                "FILL 3", "HEAD a = 0", "mark(0, 0, 0, NONE, NONE, 0) = 0", "mark(1, 0, 0, NONE, NONE, 0) = 1",
                "mark(2, 1, 0, NONE, NONE, 0) = 2", "mark(3, 3, 0, NONE, NONE, 0) = 3",
                "put(1, 50) = 4", "GAPS = 0 1 3 4", "put(0, 51) = 5", "GAPS = 0 2 4 5",
                "put(5, 52) = 6", "GAPS = 0 2 4 5");
        Calls.run("2 put: 300 at most",
                "FILL 299", "put(299, 1) = 300", "put(0, 1) = FULL", "put(300, 9999) = FULL", "put(301, 1) = OUTSIDE",
                "put(0, 10000) = OUTSIDE", "told(0) = 300", "told(1) = 30", "told(8) = 40", "take(0) = 0",
                "put(299, 5) = 300", "word(299) = 5", "word(300) = UNKNOWN", "flow(1) = 10", "told(1) = 300",
                "label(299) = 3", "label(300) = UNKNOWN");
    }

    private static void take() {
        Calls.run("3 take and 5 word",
                "REFUSED take(0) = UNKNOWN", "FILL 4", "word(0) = 0", "word(3) = 3", "word(4) = UNKNOWN",
                "word(-1) = UNKNOWN", "word(LEAST) = UNKNOWN", "word(MOST) = UNKNOWN",
                "take(1) = 1", "WORDS = 0 2 3", "take(2) = 3", "take(0) = 0", "WORDS = 2",
                "REFUSED take(1) = UNKNOWN", "REFUSED take(-1) = UNKNOWN", "take(0) = 2", "WORDS = ");
        Calls.run("3 take with marks: those behind the word go one back",
                "FILL 4", "HEAD a = 0", "mark(0, 0, 0, NONE, NONE, 0) = 0", "mark(1, 0, 0, NONE, NONE, 0) = 1",
                "mark(2, 0, 0, NONE, NONE, 0) = 2", "mark(3, 0, 0, NONE, NONE, 0) = 3", "mark(4, 0, 0, NONE, NONE, 0) = 4",
                "take(1) = 1", "GAPS = 0 1 1 2 3", "take(0) = 0", "GAPS = 0 0 0 1 2",
                "take(1) = 3", "take(0) = 2", "GAPS = 0 0 0 0 0");
    }

    private static void move() {
        Calls.run("4 move",
                "FILL 6", "move(0, 2, 4) = 2", "WORDS = 2 3 4 5 0 1", "move(4, 2, 0) = 2", "WORDS = 0 1 2 3 4 5",
                "move(1, 3, 2) = 3", "WORDS = 0 4 1 2 3 5", "move(2, 3, 1) = 3", "WORDS = 0 1 2 3 4 5",
                "move(2, 2, 2) = 2", "WORDS = 0 1 2 3 4 5", "move(0, 6, 0) = 6", "WORDS = 0 1 2 3 4 5",
                "told(8) = 12", "move(3, 0, 6) = 0", "move(6, 0, 0) = 0", "told(8) = 12");
        Calls.run("4 move: faults",
                "FILL 4", "move(0, 1, 3) = 1", "fault() = 0",
                "REFUSED move(0, -1, 0) = SIZE", "fault() = 4", "REFUSED move(9, LEAST, 9) = SIZE", "fault() = 4",
                "REFUSED move(-1, 1, 0) = INDEX", "fault() = 3", "REFUSED move(4, 1, 0) = INDEX",
                "REFUSED move(2, 3, 0) = INDEX", "REFUSED move(0, 5, 0) = INDEX", "REFUSED move(0, MOST, 0) = INDEX",
                "REFUSED move(MOST, MOST, 0) = INDEX", "REFUSED move(MOST, 1, 0) = INDEX",
                "REFUSED move(0, 2, 3) = INDEX", "REFUSED move(0, 2, -1) = INDEX", "REFUSED move(0, 0, 5) = INDEX",
                "REFUSED move(5, 0, 0) = INDEX", "REFUSED move(-1, 0, 0) = INDEX", "fault() = 3",
                "move(0, 0, 4) = 0", "fault() = 0", "WORDS = 1 2 3 0");
    }

    private static void moveWithMarks() {
        Calls.run("4 move: words take the marks just behind each of them",
                "FILL 5", "HEAD a = 0", "HEAD b = 1",
                "mark(0, 0, 0, NONE, NONE, 0) = 0", "mark(1, 0, 0, NONE, NONE, 0) = 1", "mark(2, 0, 0, NONE, NONE, 0) = 2",
                "mark(3, 0, 0, NONE, NONE, 0) = 3", "see(4, 0, 1, false) = 4", "mark(5, 0, 0, NONE, NONE, 0) = 5",
                "move(1, 2, 3) = 2", "WORDS = 0 3 4 1 2", "GAPS = 0 1 4 5 2 3",
                "move(3, 2, 0) = 2", "WORDS = 1 2 0 3 4", "GAPS = 0 3 1 2 4 5",
                "move(0, 1, 2) = 1", "WORDS = 2 0 1 3 4", "GAPS = 0 2 3 1 4 5",
                "move(4, 1, 1) = 1", "WORDS = 2 4 0 1 3", "GAPS = 0 3 4 1 5 2");
    }

    private static void flow() {
        Calls.run("6 flow",
                "FILL 11", "told(1) = 2", "flow(1) = 10", "told(1) = 11", "flow(50) = 1", "told(1) = 1",
                "REFUSED flow(0) = OUTSIDE", "REFUSED flow(51) = OUTSIDE", "REFUSED flow(-1) = OUTSIDE",
                "flow(11) = 50", "told(1) = 1", "flow(5) = 11", "told(1) = 3", "take(0) = 0", "told(1) = 2");
        Calls.run("6 flow: a gap is on the page of the word ahead of it",
                "FILL 6", "HEAD a = 0", "mark(0, 0, 0, NONE, NONE, 0) = 0", "mark(1, 0, 0, NONE, NONE, 0) = 1",
                "mark(2, 0, 0, NONE, NONE, 0) = 2", "mark(3, 0, 0, NONE, NONE, 0) = 3", "mark(6, 0, 0, NONE, NONE, 0) = 4",
                "flow(2) = 10", "marked(0, 6) = 0", "marked(1, 6) = 0", "marked(2, 6) = 0", "marked(3, 6) = 1",
                "marked(4, 6) = 2", "flow(1) = 2", "marked(0, 6) = 0", "marked(1, 6) = 0", "marked(2, 6) = 1",
                "marked(4, 6) = 5");
    }

    private static void part() {
        Calls.run("7 part",
                "part(0, 0, 1, 0) = 1", "part(299, 2, 999, 65) = 2", "part(0, 1, 5, 0) = 2", "LABEL 0 = 5",
                "REFUSED part(-1, 1, 1, 65) = OUTSIDE", "REFUSED part(300, 1, 1, 65) = OUTSIDE",
                "REFUSED part(1, -1, 1, 65) = OUTSIDE", "REFUSED part(1, 3, 1, 65) = OUTSIDE",
                "REFUSED part(1, 1, 0, 65) = OUTSIDE", "REFUSED part(1, 1, 1000, 65) = OUTSIDE",
                "REFUSED part(1, 2, 1, 64) = OUTSIDE", "REFUSED part(1, 2, 1, 91) = OUTSIDE",
                "part(1, 2, 1, 90) = 3", "part(2, 1, 999, -5) = 4", "part(3, 0, 1, MOST) = 5", "part(4, 0, 1, 0) = 6",
                "part(5, 0, 1, 0) = 7", "part(6, 0, 1, 0) = 8", "told(2) = 8", "REFUSED part(7, 0, 1, 0) = FULL",
                "REFUSED part(7, 0, 1000, 0) = OUTSIDE", "part(6, 1, 2, 0) = 8", "part(299, 1, 2, 0) = 8", "told(8) = 0",
                "undo() = STATE");
    }

    private static void labels() {
        Calls.run("8 label and 9 labelSign",
                "FILL 30", "flow(1) = 10", "LABEL 0 = 1", "LABEL 9 = 10", "LABEL 29 = 30",
                "part(10, 0, 1, 0) = 1", "LABEL 9 = 10", "LABEL 10 = i", "LABEL 13 = iv", "LABEL 18 = ix",
                "part(5, 2, 98, 67) = 2", "LABEL 4 = 5", "LABEL 5 = C-98", "LABEL 7 = C-100", "LABEL 10 = i",
                "part(5, 1, 999, 67) = 2", "LABEL 5 = 999", "LABEL 6 = 1000",
                "label(30) = UNKNOWN", "label(-1) = UNKNOWN", "labelSign(30, 0) = UNKNOWN", "labelSign(-1, 0) = UNKNOWN",
                "labelSign(0, -1) = NONE", "labelSign(0, 1) = NONE", "labelSign(0, MOST) = NONE",
                "labelSign(0, LEAST) = NONE");
        Calls.run("8 label: roman numbers",
                "part(0, 0, 888, 0) = 1", "LABEL 0 = dccclxxxviii", "part(0, 0, 999, 0) = 1", "LABEL 0 = cmxcix",
                "part(0, 0, 444, 0) = 1", "LABEL 0 = cdxliv", "part(0, 0, 1, 0) = 1", "LABEL 0 = i",
                "part(0, 0, 549, 0) = 1", "LABEL 0 = dxlix", "part(0, 0, 95, 0) = 1", "LABEL 0 = xcv",
                "part(0, 0, 60, 0) = 1", "LABEL 0 = lx", "flow(1) = 10", "FILL 3", "part(0, 0, 999, 0) = 1",
                "LABEL 1 = m", "LABEL 2 = mi");
        Calls.run("8 label: parts of pages that are not there as yet",
                "part(2, 0, 7, 0) = 1", "part(1, 2, 3, 90) = 2", "label(1) = UNKNOWN", "FILL 21",
                "LABEL 0 = 1", "LABEL 1 = Z-3", "LABEL 2 = vii", "label(3) = UNKNOWN");
    }

    private static void labelled() {
        Calls.run("10 labelled",
                "FILL 20", "flow(2) = 10", "labelled(1, 1, 0) = 0", "labelled(1, 10, 0) = 9", "labelled(1, 11, 0) = NONE",
                "labelled(1, 0, 0) = NONE", "labelled(0, 1, 0) = NONE", "labelled(2, 1, 65) = NONE",
                "part(3, 0, 1, 0) = 1", "part(5, 1, 2, 0) = 2", "part(6, 2, 2, 66) = 3", "part(8, 2, 2, 67) = 4",
                "labelled(1, 2, 99) = 1", "labelled(1, 4, 0) = NONE", "labelled(0, 2, 0) = 4", "labelled(0, 2, 77) = 4", "labelled(0, 3, 0) = NONE",
                "labelled(2, 2, 66) = 6", "labelled(2, 3, 66) = 7", "labelled(2, 4, 66) = NONE", "labelled(2, 2, 67) = 8",
                "labelled(2, 2, 68) = NONE", "labelled(1, -1, 0) = NONE", "labelled(1, MOST, 0) = NONE",
                "labelled(-1, 1, 0) = OUTSIDE", "labelled(3, 1, 0) = OUTSIDE");
    }
}
