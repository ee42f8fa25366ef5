import java.io.IOException;

/** The edges of promises 1 to 10, each by the words that name it. */
public final class BookEdgeTest {
    public static void main(String[] args) throws IOException {
        newObject();
        put();
        putRefused();
        take();
        move();
        moveFaults();
        word();
        flow();
        part();
        partRefused();
        label();
        labelSign();
        labelled();
        Edges.end(args, 1, 10);
    }

    private static void newObject() {
        Edges.of(1, "No TERMS, PARTS, HEADS, MARKS; THE INDEX has no ENTRIES.",
                "told(0) = 0", "told(1) = 1", "told(2) = 0", "told(3) = 0", "told(4) = 0", "told(5) = 0", "told(6) = 0",
                "told(7) = 0", "told(8) = 0", "word(0) = UNKNOWN", "take(0) = UNKNOWN", "LABEL 0 = 1", "label(1) = UNKNOWN",
                "about(0, 0) = UNKNOWN", "sign(0, 0, 0) = UNKNOWN", "compare(0, 0, 0) = UNKNOWN", "marked(0, 0) = UNKNOWN",
                "tell(0) = UNKNOWN", "show(0) = UNKNOWN", "drop(0) = UNKNOWN", "entry(0, 0) = UNKNOWN");
        Edges.of(1, "No TERMS, PARTS, HEADS, MARKS; THE INDEX has no ENTRIES.",
                "place(0, 0, 0) = UNKNOWN", "sees(0, 0, 0) = UNKNOWN", "find(0, NONE, NONE) = UNKNOWN", "first() = STATE",
                "NAME a", "first() = NONE", "unmatched() = 0", "unmatchedAt(0) = UNKNOWN", "led(0) = 0", "led(1) = 0",
                "led(2) = 0", "changed() = 0", "undo() = STATE", "taken(0) = NULL", "trace() = 0", "build(0, 0, 0) = 0",
                "changed() = 0");
        BackIndex used = new BackIndex();
        used.put(0, 1);
        used.name('a', 1);
        used.head();
        used.tell(used.mark(0, 0, 0, -9, -9, 0));
        used.build(0, 0, 0);
        used.part(0, 0, 5, 0);
        used.pass();
        used.move(0, -1, 0);
        Edges.of(1, "No TERMS, PARTS, HEADS, MARKS; THE INDEX has no ENTRIES.",
                "told(0) = 0", "told(2) = 0", "told(3) = 0", "told(4) = 0", "told(5) = 0", "told(6) = 0", "told(7) = 0",
                "told(8) = 0", "trace() = 0", "fault() = 0", "LABEL 0 = 1");
    }

    private static void put() {
        Edges.of(2, "A word is put ahead of word i (i as many as there are: behind all): how many there are.",
                "put(0, 7) = 1", "put(1, 8) = 2", "put(0, 6) = 3", "put(2, 5) = 4", "WORDS = 6 7 5 8", "put(4, 4) = 5",
                "WORDS = 6 7 5 8 4");
        Edges.of(2, "A word is put ahead of word i (i as many as there are: behind all): how many there are.",
                "FILL 299", "put(299, 11) = 300", "word(299) = 11", "word(298) = 298", "undo() = 39", "put(0, 12) = 300",
                "word(0) = 12", "word(1) = 0", "word(299) = 298", "undo() = 39", "put(298, 13) = 300", "word(298) = 13",
                "word(299) = 298", "word(297) = 297");
    }

    private static void putRefused() {
        Edges.of(2, "OUTSIDE: i, w",
                "REFUSED put(1, 0) = OUTSIDE", "REFUSED put(-1, 0) = OUTSIDE", "REFUSED put(0, -1) = OUTSIDE",
                "REFUSED put(0, 10000) = OUTSIDE", "put(0, 0) = 1", "put(1, 9999) = 2", "WORDS = 0 9999",
                "REFUSED put(3, 0) = OUTSIDE", "REFUSED put(-1, 9999) = OUTSIDE", "REFUSED put(2, -1) = OUTSIDE",
                "REFUSED put(2, 10000) = OUTSIDE", "REFUSED put(LEAST, 1) = OUTSIDE", "REFUSED put(MOST, 1) = OUTSIDE",
                "REFUSED put(0, LEAST) = OUTSIDE", "REFUSED put(0, MOST) = OUTSIDE", "put(2, 1) = 3");
        Edges.of(2, "FULL.",
                "FILL 299", "put(0, 1) = 300", "REFUSED put(0, 1) = FULL", "REFUSED put(300, 0) = FULL",
                "REFUSED put(299, 9999) = FULL", "REFUSED put(301, 1) = OUTSIDE", "REFUSED put(0, 10000) = OUTSIDE",
                "REFUSED put(-1, 1) = OUTSIDE", "take(299) = 298", "put(299, 5) = 300", "REFUSED put(150, 1) = FULL");
    }

    private static void take() {
        Edges.of(3, "Word i is taken: what it was.",
                "put(0, 0) = 1", "take(0) = 0", "told(0) = 0", "put(0, 9999) = 1", "take(0) = 9999", "FILL 5", "take(4) = 4",
                "take(0) = 0", "take(1) = 2", "WORDS = 1 3");
        Edges.of(3, "Word i is taken: what it was.",
                "FILL 300", "take(299) = 299", "told(0) = 299", "take(0) = 0", "word(0) = 1", "word(297) = 298",
                "word(298) = UNKNOWN");
        Edges.of(3, "UNKNOWN.",
                "REFUSED take(0) = UNKNOWN", "REFUSED take(-1) = UNKNOWN", "FILL 3", "REFUSED take(3) = UNKNOWN",
                "REFUSED take(-1) = UNKNOWN", "REFUSED take(LEAST) = UNKNOWN", "REFUSED take(MOST) = UNKNOWN", "take(2) = 2",
                "REFUSED take(2) = UNKNOWN", "take(0) = 0", "take(0) = 1", "REFUSED take(0) = UNKNOWN");
    }

    private static void move() {
        Edges.of(4, "Words i .. i + n - 1 go, in their order, ahead of word j of those that are left"
                        + " (j as many as these: behind all): n.",
                "FILL 5", "move(0, 1, 4) = 1", "WORDS = 1 2 3 4 0", "move(4, 1, 0) = 1", "WORDS = 0 1 2 3 4",
                "move(0, 4, 1) = 4", "WORDS = 4 0 1 2 3", "move(1, 4, 0) = 4", "WORDS = 0 1 2 3 4", "move(0, 5, 0) = 5",
                "WORDS = 0 1 2 3 4", "move(1, 2, 1) = 2", "WORDS = 0 1 2 3 4", "move(1, 2, 2) = 2", "WORDS = 0 3 1 2 4",
                "move(2, 2, 1) = 2", "WORDS = 0 1 2 3 4", "move(3, 2, 0) = 2", "WORDS = 3 4 0 1 2");
        Edges.of(4, "Words i .. i + n - 1 go, in their order, ahead of word j of those that are left"
                        + " (j as many as these: behind all): n.",
                "move(0, 0, 0) = 0", "fault() = 0", "FILL 3", "move(0, 0, 0) = 0", "move(3, 0, 0) = 0", "move(0, 0, 3) = 0",
                "move(3, 0, 3) = 0", "WORDS = 0 1 2", "told(8) = 3");
        Edges.of(4, "Words i .. i + n - 1 go, in their order, ahead of word j of those that are left"
                        + " (j as many as these: behind all): n.",
                "FILL 300", "move(0, 299, 1) = 299", "word(0) = 299", "word(1) = 0", "word(299) = 298", "move(0, 300, 0) = 300",
                "word(0) = 299", "move(0, 1, 299) = 1", "word(0) = 0", "word(299) = 299", "move(150, 150, 0) = 150",
                "word(0) = 150", "word(149) = 299", "word(150) = 0", "word(299) = 149");
    }

    private static void moveFaults() {
        Edges.of(4, "SIZE: n below 0",
                "REFUSED move(0, -1, 0) = SIZE", "fault() = 4", "FILL 3", "REFUSED move(0, -1, 0) = SIZE",
                "REFUSED move(3, -1, 3) = SIZE", "REFUSED move(0, LEAST, 0) = SIZE", "REFUSED move(-1, -1, -1) = SIZE",
                "REFUSED move(MOST, -1, MOST) = SIZE", "move(0, 0, 0) = 0", "fault() = 0");
        Edges.of(4, "INDEX: they are not all there, or j is not.",
                "REFUSED move(0, 1, 0) = INDEX", "REFUSED move(0, 0, 1) = INDEX", "REFUSED move(1, 0, 0) = INDEX", "FILL 4",
                "REFUSED move(0, 5, 0) = INDEX", "REFUSED move(4, 1, 0) = INDEX", "REFUSED move(3, 2, 0) = INDEX",
                "REFUSED move(1, 4, 0) = INDEX", "REFUSED move(-1, 1, 0) = INDEX", "REFUSED move(-1, 2, 0) = INDEX",
                "REFUSED move(-1, 0, 0) = INDEX", "REFUSED move(5, 0, 0) = INDEX", "fault() = 3", "move(3, 1, 0) = 1",
                "fault() = 0");
        Edges.of(4, "INDEX: they are not all there, or j is not.",
                "FILL 4", "REFUSED move(0, 1, 4) = INDEX", "REFUSED move(0, 1, -1) = INDEX", "REFUSED move(0, 4, 1) = INDEX",
                "REFUSED move(0, 0, 5) = INDEX", "REFUSED move(0, 0, -1) = INDEX", "REFUSED move(2, 2, 3) = INDEX",
                "fault() = 3", "move(0, 1, 3) = 1", "fault() = 0", "WORDS = 1 2 3 0");
        Edges.of(4, "INDEX: they are not all there, or j is not.",
                "FILL 4", "REFUSED move(MOST, 1, 0) = INDEX", "REFUSED move(1, MOST, 0) = INDEX",
                "REFUSED move(MOST, MOST, 0) = INDEX", "REFUSED move(2, MOST, MOST) = INDEX", "REFUSED move(LEAST, 1, 0) = INDEX",
                "REFUSED move(LEAST, MOST, 0) = INDEX", "REFUSED move(0, 1, MOST) = INDEX", "REFUSED move(0, 1, LEAST) = INDEX");
    }

    private static void word() {
        Edges.of(5, "UNKNOWN.",
                "REFUSED word(0) = UNKNOWN", "put(0, 9999) = 1", "word(0) = 9999", "REFUSED word(1) = UNKNOWN",
                "REFUSED word(-1) = UNKNOWN", "REFUSED word(LEAST) = UNKNOWN", "REFUSED word(MOST) = UNKNOWN", "put(1, 0) = 2",
                "word(1) = 0", "take(0) = 9999", "word(0) = 0", "REFUSED word(1) = UNKNOWN");
        Edges.of(5, "Word i.", "FILL 300", "word(0) = 0", "word(299) = 299", "REFUSED word(300) = UNKNOWN");
    }

    private static void flow() {
        Edges.of(6, "FLOW becomes n: what it was.",
                "FILL 51", "told(1) = 6", "flow(1) = 10", "told(1) = 51", "flow(50) = 1", "told(1) = 2", "flow(50) = 50",
                "flow(49) = 50", "told(1) = 2", "flow(2) = 49", "told(1) = 26", "take(50) = 50", "told(1) = 25",
                "flow(50) = 2", "told(1) = 1", "told(8) = 40");
        Edges.of(6, "OUTSIDE: n is not 1 .. 50.",
                "FILL 3", "REFUSED flow(0) = OUTSIDE", "REFUSED flow(51) = OUTSIDE", "REFUSED flow(-1) = OUTSIDE",
                "REFUSED flow(LEAST) = OUTSIDE", "REFUSED flow(MOST) = OUTSIDE", "flow(1) = 10", "REFUSED flow(0) = OUTSIDE",
                "flow(50) = 1", "REFUSED flow(51) = OUTSIDE", "flow(10) = 50");
    }

    private static void part() {
        Edges.of(7, "(whether there is such a PAGE or not)",
                "part(299, 1, 7, 0) = 1", "part(1, 0, 7, 0) = 2", "part(0, 1, 9, 0) = 3", "LABEL 0 = 9", "label(1) = UNKNOWN",
                "put(0, 1) = 1", "put(1, 1) = 2", "flow(1) = 10", "LABEL 1 = vii", "FILL 298", "LABEL 298 = ccciv",
                "LABEL 299 = 7");
        Edges.of(7, "with a letter (looked at of LETTER alone)",
                "part(0, 0, 1, 64) = 1", "LABEL 0 = i", "part(0, 1, 1, 91) = 1", "LABEL 0 = 1", "part(0, 0, 1, LEAST) = 1",
                "part(0, 1, 1, MOST) = 1", "part(0, 1, 1, 66) = 1", "LABEL 0 = 1", "part(0, 2, 1, 66) = 1", "LABEL 0 = B-1");
        Edges.of(7, "how many PARTS there are; a PART that began there before becomes this one.",
                "part(0, 0, 3, 0) = 1", "part(0, 2, 4, 90) = 1", "LABEL 0 = Z-4", "told(2) = 1", "part(0, 1, 4, 90) = 1",
                "LABEL 0 = 4", "part(1, 1, 4, 90) = 2", "part(0, 0, 4, 0) = 2", "told(2) = 2", "FILL 11", "LABEL 0 = iv",
                "LABEL 1 = 4", "undo() = 10", "told(2) = 2");
    }

    private static void partRefused() {
        String words = "OUTSIDE: page is not 0 .. 299, form, number is not 1 .. 999, letter is not 65 .. 90";
        Edges.of(7, words,
                "REFUSED part(-1, 1, 1, 65) = OUTSIDE", "REFUSED part(300, 1, 1, 65) = OUTSIDE",
                "REFUSED part(LEAST, 1, 1, 65) = OUTSIDE", "REFUSED part(MOST, 1, 1, 65) = OUTSIDE", "part(0, 1, 1, 65) = 1",
                "part(299, 1, 1, 65) = 2");
        Edges.of(7, words,
                "REFUSED part(0, -1, 1, 65) = OUTSIDE", "REFUSED part(0, 3, 1, 65) = OUTSIDE",
                "REFUSED part(0, LEAST, 1, 65) = OUTSIDE", "REFUSED part(0, MOST, 1, 65) = OUTSIDE", "part(0, 0, 1, 65) = 1",
                "LABEL 0 = i", "part(0, 1, 1, 65) = 1", "LABEL 0 = 1", "part(0, 2, 1, 65) = 1", "LABEL 0 = A-1");
        Edges.of(7, words,
                "REFUSED part(0, 0, 0, 65) = OUTSIDE", "REFUSED part(0, 1, 0, 65) = OUTSIDE",
                "REFUSED part(0, 2, 0, 65) = OUTSIDE", "REFUSED part(0, 0, 1000, 65) = OUTSIDE",
                "REFUSED part(0, 1, 1000, 65) = OUTSIDE", "REFUSED part(0, 2, 1000, 65) = OUTSIDE",
                "REFUSED part(0, 1, -1, 65) = OUTSIDE", "REFUSED part(0, 1, LEAST, 65) = OUTSIDE",
                "REFUSED part(0, 1, MOST, 65) = OUTSIDE", "part(0, 1, 1, 65) = 1", "LABEL 0 = 1", "part(0, 1, 999, 65) = 1",
                "LABEL 0 = 999");
        Edges.of(7, words,
                "REFUSED part(0, 2, 1, 64) = OUTSIDE", "REFUSED part(0, 2, 1, 91) = OUTSIDE",
                "REFUSED part(0, 2, 1, LEAST) = OUTSIDE", "REFUSED part(0, 2, 1, MOST) = OUTSIDE",
                "REFUSED part(0, 2, 1, 97) = OUTSIDE", "REFUSED part(0, 2, 1, 321) = OUTSIDE", "part(0, 2, 1, 65) = 1",
                "LABEL 0 = A-1", "part(0, 2, 1, 90) = 1", "LABEL 0 = Z-1", "REFUSED part(0, 2, 1, 91) = OUTSIDE");
        Edges.of(7, "FULL.",
                "FILL 10", "flow(1) = 10", "COUNT 1 part(0, 0, 1, 0) = 1", "part(2, 0, 1, 0) = 2", "part(3, 0, 1, 0) = 3",
                "part(4, 0, 1, 0) = 4", "part(5, 0, 1, 0) = 5", "part(6, 0, 1, 0) = 6", "part(7, 0, 1, 0) = 7",
                "part(8, 0, 1, 0) = 8", "REFUSED part(9, 0, 1, 0) = FULL", "REFUSED part(1, 0, 1, 0) = FULL",
                "REFUSED part(299, 0, 1, 0) = FULL", "REFUSED part(300, 0, 1, 0) = OUTSIDE", "REFUSED part(9, 3, 1, 0) = OUTSIDE",
                "REFUSED part(9, 2, 1, 0) = OUTSIDE", "part(8, 1, 5, 0) = 8", "LABEL 8 = 5", "LABEL 9 = 6", "part(0, 1, 5, 0) = 8",
                "LABEL 1 = 6", "LABEL 2 = i");
    }

    private static void label() {
        Edges.of(8, "How many signs the LABEL of a PAGE has.",
                "label(0) = 1", "part(0, 1, 9, 0) = 1", "FILL 20", "label(0) = 1", "label(1) = 2", "part(0, 1, 99, 0) = 1",
                "label(0) = 2", "label(1) = 3", "part(0, 1, 999, 0) = 1", "label(0) = 3", "label(1) = 4", "part(0, 2, 9, 65) = 1",
                "label(0) = 3", "label(1) = 4", "part(0, 0, 888, 65) = 1", "label(0) = 12", "label(1) = 10");
        Edges.of(8, "UNKNOWN: there is no such PAGE.",
                "REFUSED label(1) = UNKNOWN", "REFUSED label(-1) = UNKNOWN", "REFUSED label(LEAST) = UNKNOWN",
                "REFUSED label(MOST) = UNKNOWN", "FILL 10", "REFUSED label(1) = UNKNOWN", "part(1, 1, 1, 0) = 1",
                "REFUSED label(1) = UNKNOWN", "put(0, 1) = 11", "label(1) = 1", "REFUSED label(2) = UNKNOWN", "take(0) = 1",
                "REFUSED label(1) = UNKNOWN", "label(0) = 1");
    }

    private static void labelSign() {
        Edges.of(9, "Sign i of the LABEL of a PAGE; NONE.",
                "labelSign(0, 0) = 49", "labelSign(0, 1) = NONE", "labelSign(0, -1) = NONE", "labelSign(0, LEAST) = NONE",
                "labelSign(0, MOST) = NONE", "part(0, 2, 10, 77) = 1", "labelSign(0, 0) = 77", "labelSign(0, 1) = 45",
                "labelSign(0, 2) = 49", "labelSign(0, 3) = 48", "labelSign(0, 4) = NONE", "part(0, 0, 888, 0) = 1",
                "labelSign(0, 0) = 100", "labelSign(0, 11) = 105", "labelSign(0, 12) = NONE", "part(0, 0, 1, 0) = 1",
                "labelSign(0, 0) = 105", "labelSign(0, 1) = NONE");
        Edges.of(9, "UNKNOWN.",
                "REFUSED labelSign(1, 0) = UNKNOWN", "REFUSED labelSign(-1, 0) = UNKNOWN", "REFUSED labelSign(1, -1) = UNKNOWN",
                "REFUSED labelSign(LEAST, 0) = UNKNOWN", "REFUSED labelSign(MOST, 0) = UNKNOWN", "FILL 11",
                "labelSign(1, 0) = 50", "REFUSED labelSign(2, 0) = UNKNOWN", "REFUSED labelSign(2, 99) = UNKNOWN");
    }

    private static void labelled() {
        String words = "The least PAGE that has a LABEL of a FORM and number (of LETTER: with that letter); NONE.";
        Edges.of(10, words,
                "labelled(1, 1, 0) = 0", "labelled(1, 2, 0) = NONE", "labelled(1, 0, 0) = NONE", "labelled(1, LEAST, 0) = NONE",
                "labelled(1, MOST, 0) = NONE", "labelled(0, 1, 0) = NONE", "labelled(2, 1, 0) = NONE", "labelled(2, 1, 65) = NONE",
                "part(1, 1, 1, 0) = 1", "part(2, 0, 5, 0) = 2", "labelled(0, 5, 0) = NONE", "labelled(1, 1, 0) = 0", "FILL 21",
                "labelled(1, 1, 0) = 0", "labelled(0, 5, 0) = 2", "labelled(0, 6, 0) = NONE", "labelled(0, 4, 0) = NONE");
        Edges.of(10, words,
                "FILL 6", "flow(1) = 10", "part(5, 2, 8, 65) = 1", "part(3, 2, 8, 65) = 2", "part(1, 2, 8, 66) = 3",
                "labelled(2, 8, 65) = 3", "labelled(2, 9, 65) = 4", "labelled(2, 10, 65) = NONE", "labelled(2, 8, 66) = 1",
                "labelled(2, 8, 67) = NONE", "labelled(2, 8, 64) = NONE", "labelled(2, 8, LEAST) = NONE", "labelled(1, 8, 66) = NONE",
                "labelled(0, 8, 66) = NONE", "labelled(1, 1, 66) = 0", "labelled(1, 1, MOST) = 0");
        Edges.of(10, words,
                "FILL 300", "flow(1) = 10", "labelled(1, 300, 0) = 299", "labelled(1, 301, 0) = NONE", "part(0, 0, 999, 0) = 1",
                "labelled(0, 1298, 0) = 299", "labelled(0, 1299, 0) = NONE", "labelled(0, 999, 0) = 0", "labelled(0, 998, 0) = NONE",
                "labelled(1, 1, 0) = NONE", "part(299, 0, 999, 0) = 2", "labelled(0, 999, 0) = 0", "labelled(0, 1298, 0) = NONE");
        Edges.of(10, words,
                "FILL 20", "part(0, 0, 4, 70) = 1", "part(1, 1, 4, 71) = 2", "labelled(0, 4, 70) = 0", "labelled(0, 4, 71) = 0",
                "labelled(0, 4, 0) = 0", "labelled(1, 4, 70) = 1", "labelled(1, 4, LEAST) = 1", "part(1, 2, 4, 71) = 2", "labelled(2, 4, 71) = 1",
                "labelled(2, 4, 70) = NONE");
        Edges.of(10, "OUTSIDE: form.",
                "REFUSED labelled(-1, 1, 0) = OUTSIDE", "REFUSED labelled(3, 1, 0) = OUTSIDE", "REFUSED labelled(LEAST, 1, 65) = OUTSIDE",
                "REFUSED labelled(MOST, 1, 65) = OUTSIDE", "REFUSED labelled(3, 0, 0) = OUTSIDE", "labelled(0, 1, 0) = NONE",
                "labelled(2, 1, 65) = NONE");
    }
}
