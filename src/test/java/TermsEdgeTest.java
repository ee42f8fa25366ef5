import java.io.IOException;

/** The edges that the document names under "Terms": refusals, faults, the book, heads, marks; each by the words that name it. */
public final class TermsEdgeTest {
    public static void main(String[] args) throws IOException {
        unknownFirst();
        outsideFirst();
        stateFirst();
        changeNothing();
        faults();
        faultsInOrder();
        book();
        pages();
        gaps();
        parts();
        labels();
        roman();
        theName();
        headSigns();
        passed();
        passedLeftOut();
        keyBits();
        keyOrders();
        keyKinds();
        keyNumbers();
        keyLetters();
        likeKeys();
        marks();
        marksAtOneGap();
        wordPut();
        wordTaken();
        wordsMoved();
        allMarksWithWords();
        bodies();
        Edges.end(args, 0, 0);
    }

    private static void of(String words, String... lines) {
        Edges.of(Edges.TERMS, words, lines);
    }

    private static void unknownFirst() {
        String words = "REFUSALS, the first of these that fits: UNKNOWN (there is no such word, page, HEAD, MARK, ENTRY, place, SEE, or it is gone)";
        of(words, "HEADS 2", "mark(0, 0, 0, NONE, NONE, 0) = 0", "see(0, 0, 1, true) = 1", "build(0, 0, 0) = 1",
                "REFUSED about(2, 9) = UNKNOWN", "REFUSED sign(2, 9, 0) = UNKNOWN", "REFUSED compare(0, 2, 9) = UNKNOWN",
                "REFUSED mark(1, 9, 0, NONE, NONE, 0) = UNKNOWN", "REFUSED mark(0, 9, 2, NONE, NONE, 0) = UNKNOWN",
                "REFUSED mark(1, 4, 0, NONE, NONE, 0) = UNKNOWN", "REFUSED mark(0, 4, 0, 2, NONE, 100) = UNKNOWN",
                "REFUSED marked(2, 9) = UNKNOWN", "REFUSED entry(1, 9) = UNKNOWN", "REFUSED place(1, 0, 9) = UNKNOWN",
                "REFUSED place(0, 1, 9) = UNKNOWN", "REFUSED sees(1, 0, 9) = UNKNOWN", "REFUSED sees(0, 1, 9) = UNKNOWN");
        of(words, "HEADS 2", "NAME  x", "REFUSED sortAs(2) = UNKNOWN", "REFUSED rename(2) = UNKNOWN", "NAME a", "REFUSED rename(2) = UNKNOWN",
                "unname() = 1", "REFUSED rename(2) = UNKNOWN", "REFUSED meld(2, 2) = UNKNOWN", "REFUSED mark(1, 0, 0, NONE, 1, 0) = UNKNOWN",
                "REFUSED mark(0, 0, 2, NONE, 1, 0) = UNKNOWN", "REFUSED see(0, 2, 2, false) = UNKNOWN", "REFUSED see(1, 0, 0, true) = UNKNOWN",
                "REFUSED find(2, NONE, 1) = UNKNOWN");
        of(words, "HEADS 2", "COUNT 50 mark(0, 0, 0, NONE, NONE, 0) = 0", "REFUSED mark(1, 0, 0, NONE, NONE, 0) = UNKNOWN",
                "REFUSED mark(0, 0, 2, NONE, NONE, 0) = UNKNOWN", "REFUSED see(1, 0, 1, false) = UNKNOWN", "REFUSED see(0, 0, 2, false) = UNKNOWN");
    }

    private static void outsideFirst() {
        String words = "OUTSIDE (another number is not as told)";
        of(words, "HEADS 2", "REFUSED mark(0, 6, 0, NONE, 1, 0) = OUTSIDE", "REFUSED mark(0, 4, 0, NONE, 1, 0) = OUTSIDE",
                "REFUSED mark(0, -1, 0, NONE, 1, 0) = OUTSIDE", "COUNT 50 mark(0, 0, 0, NONE, NONE, 0) = 0",
                "REFUSED mark(0, 6, 0, NONE, NONE, 0) = OUTSIDE", "REFUSED mark(0, 4, 0, NONE, NONE, 100) = OUTSIDE",
                "REFUSED mark(0, 6, 0, NONE, 1, 0) = OUTSIDE");
        of(words, "FILL 300", "REFUSED put(301, 0) = OUTSIDE", "REFUSED put(0, 10000) = OUTSIDE", "REFUSED put(-1, -1) = OUTSIDE",
                "NAME abcdefghijklmnop", "REFUSED name(31, 1) = OUTSIDE", "REFUSED name(97, 0) = OUTSIDE", "REFUSED name(97, 9) = OUTSIDE");
        of(words, "part(0, 1, 1, 0) = 1", "part(1, 1, 1, 0) = 2", "part(2, 1, 1, 0) = 3", "part(3, 1, 1, 0) = 4", "part(4, 1, 1, 0) = 5",
                "part(5, 1, 1, 0) = 6", "part(6, 1, 1, 0) = 7", "part(7, 1, 1, 0) = 8", "REFUSED part(8, 3, 1, 0) = OUTSIDE",
                "REFUSED part(8, 1, 0, 0) = OUTSIDE", "REFUSED part(8, 2, 1, 0) = OUTSIDE", "REFUSED part(300, 1, 1, 0) = OUTSIDE",
                "REFUSED part(8, 1, 1, 0) = FULL");
    }

    private static void stateFirst() {
        of("STATE (as told), FULL", "HEADS 30", "REFUSED head() = STATE", "NAME a ", "REFUSED head() = STATE", "unname() = 2",
                "REFUSED head() = STATE", "NAME new", "REFUSED head() = FULL");
        of("STATE (as told), FULL", "PASS a = 1", "PASS b = 2", "PASS c = 3", "PASS d = 4", "REFUSED pass() = STATE", "NAME e1",
                "REFUSED pass() = STATE", "NAME e", "REFUSED pass() = FULL");
        of("STATE (as told), FULL", "HEADS 2", "COUNT 50 see(0, 0, 1, false) = 0", "REFUSED see(0, 0, 0, false) = STATE",
                "REFUSED mark(0, 0, 0, NONE, 1, 0) = STATE", "REFUSED see(0, 0, 1, false) = FULL", "REFUSED mark(0, 0, 0, 1, 1, 0) = FULL");
    }

    private static void changeNothing() {
        of("they change nothing (but fault(), of a call that names FAULTS)",
                "HEADS 2", "FILL 2", "mark(1, 3, 0, NONE, NONE, 0) = 0", "build(0, 0, 0) = 1", "NAME xy", "tray(0, 1) = 1", "tell(0) = 10",
                "move(0, 1, 2) = INDEX", "fault() = 3", "put(3, 1) = OUTSIDE", "fault() = 3", "mark(9, 0, 0, NONE, NONE, 0) = UNKNOWN",
                "fault() = 3", "see(0, 0, 0, false) = STATE", "fault() = 3", "meld(0, 0) = STATE", "fault() = 3", "taken(7) = OUTSIDE",
                "fault() = 0", "WORDS = 0 1", "GAPS = 1", "told(3) = 2", "told(8) = 5", "PATHS = 0", "trace() = 63", "taken(0) = 1",
                "told(6) = 2");
    }

    private static void faults() {
        of("FAULTS are the machine's: 1 NULL (nothing is there), 2 CAST (it is of another kind), 3 INDEX, 4 SIZE (a count below 0).",
                "taken(0) = -11", "fault() = 1", "tray(2, 0) = 1", "taken(0) = -12", "fault() = 2", "move(0, 1, 0) = -13", "fault() = 3",
                "move(0, -1, 0) = -14", "fault() = 4", "HEADS 2", "match(0, 0, 1, 0, 2) = -13", "fault() = 3", "match(0, 0, 1, 0, -1) = -14",
                "fault() = 4", "see(0, 0, 1, true) = 0", "show(0) = -12", "fault() = 2");
        of("it answers -10 less it and changes nothing; fault() tells it.",
                "REFUSED taken(0) = NULL", "REFUSED move(0, 1, 0) = INDEX", "REFUSED move(0, -1, 0) = SIZE", "HEADS 2", "see(0, 0, 1, true) = 0",
                "FILL 3", "tray(1, 0) = 1", "REFUSED taken(0) = CAST", "REFUSED show(0) = CAST", "REFUSED match(0, 0, 1, 0, 2) = INDEX",
                "REFUSED match(0, 0, 1, 0, -1) = SIZE", "REFUSED move(0, 2, 2) = INDEX", "REFUSED move(0, -2, 0) = SIZE");
    }

    private static void faultsInOrder() {
        of("Of a call the first that is come to, in the order told",
                "FILL 2", "REFUSED move(-1, -1, -1) = SIZE", "REFUSED move(9, -1, 9) = SIZE", "REFUSED move(0, -1, 9) = SIZE", "HEADS 2",
                "REFUSED match(0, 9, 1, 9, -1) = SIZE", "REFUSED match(0, -1, 1, 0, -1) = SIZE", "REFUSED match(2, 9, 1, 9, -1) = UNKNOWN",
                "REFUSED match(0, 9, 2, 9, 1) = UNKNOWN", "REFUSED taken(3) = OUTSIDE", "tray(0, 0) = 1", "REFUSED taken(-1) = OUTSIDE",
                "see(0, 0, 1, false) = 0", "drop(0) = 1", "REFUSED show(0) = UNKNOWN");
        of("NONE is -9.", "HEAD a = 0", "mark(0, 0, 0, NONE, NONE, 0) = 0", "sign(0, 0, 1) = -9", "marked(0, 3) = -9", "labelSign(0, 1) = -9",
                "labelled(0, 1, 0) = -9", "find(0, NONE, NONE) = -9", "first() = -9", "build(0, 0, 0) = 1", "entry(0, 1) = -9",
                "mark(0, 0, 0, -8, -9, 0) = UNKNOWN", "mark(0, 0, 0, -10, -9, 0) = UNKNOWN", "mark(0, 0, 0, -9, -9, 0) = 1");
        Calls.check(BackIndex.UNKNOWN == -1 && BackIndex.OUTSIDE == -2 && BackIndex.STATE == -3 && BackIndex.FULL == -4
                && BackIndex.NONE == -9, "the constants are not as told");
    }

    private static void book() {
        String words = "THE BOOK is a row of TERMS (numbers 0 .. 9999), 300 at most, numbered from 0 on.";
        of(words, "put(0, 0) = 1", "put(1, 9999) = 2", "word(0) = 0", "word(1) = 9999", "REFUSED put(0, -1) = OUTSIDE",
                "REFUSED put(0, 10000) = OUTSIDE", "REFUSED word(-1) = UNKNOWN", "REFUSED word(2) = UNKNOWN");
        of(words, "FILL 299", "REFUSED put(300, 1) = OUTSIDE", "put(299, 1) = 300", "REFUSED put(300, 1) = FULL", "word(0) = 0", "word(299) = 1",
                "REFUSED word(300) = UNKNOWN", "told(0) = 300");
    }

    private static void pages() {
        of("FLOW (10 at first) words are a PAGE", "flow(10) = 10", "FILL 10", "told(1) = 1", "put(0, 1) = 11", "told(1) = 2");
        of("word i is on PAGE i / FLOW", "HEAD a = 0", "FILL 21", Edges.point(1, 0, 0), Edges.point(10, 0, 1), Edges.point(11, 0, 2),
                Edges.point(20, 0, 3), Edges.point(21, 0, 4), "marked(0, 6) = 0", "marked(1, 6) = 0", "marked(2, 6) = 1", "marked(3, 6) = 1",
                "marked(4, 6) = 2", "flow(1) = 10", "marked(0, 6) = 0", "marked(1, 6) = 9", "marked(2, 6) = 10", "marked(4, 6) = 20",
                "flow(50) = 1", "marked(4, 6) = 0", "flow(20) = 50", "marked(3, 6) = 0", "marked(4, 6) = 1");
        of("there are as many PAGES as are wanted for all TERMS, one at least", "told(1) = 1", "flow(1) = 10", "told(1) = 1", "put(0, 1) = 1",
                "told(1) = 1", "put(0, 1) = 2", "told(1) = 2", "flow(2) = 1", "told(1) = 1", "put(0, 1) = 3", "told(1) = 2", "take(0) = 1",
                "told(1) = 1", "take(0) = 1", "take(0) = 1", "told(1) = 1", "label(0) = 1", "label(1) = UNKNOWN");
        of("there are as many PAGES as are wanted for all TERMS, one at least", "FILL 300", "told(1) = 30", "flow(1) = 10", "told(1) = 300",
                "flow(50) = 1", "told(1) = 6", "flow(49) = 50", "told(1) = 7", "flow(7) = 49", "told(1) = 43");
    }

    private static void gaps() {
        of("GAP g (0 .. as many as there are TERMS) lies behind word g - 1", "HEADS 2", Edges.point(0, 0, 0),
                "REFUSED mark(1, 0, 0, NONE, NONE, 0) = UNKNOWN", "REFUSED mark(-1, 0, 0, NONE, NONE, 0) = UNKNOWN", "FILL 3",
                Edges.point(3, 0, 1), "see(3, 0, 1, true) = 2", "REFUSED mark(4, 0, 0, NONE, NONE, 0) = UNKNOWN",
                "REFUSED see(4, 0, 1, true) = UNKNOWN", "move(2, 1, 0) = 1", "GAPS = 0 1 1");
        of("it is on that word's PAGE (GAP 0: on PAGE 0)", "HEAD a = 0", Edges.point(0, 0, 0), "marked(0, 6) = 0", "FILL 4", "flow(2) = 10",
                Edges.point(1, 0, 1), Edges.point(2, 0, 2), Edges.point(3, 0, 3), Edges.point(4, 0, 4), "marked(0, 6) = 0", "marked(1, 6) = 0",
                "marked(2, 6) = 0", "marked(3, 6) = 1", "marked(4, 6) = 1", "flow(1) = 2", "marked(0, 6) = 0", "marked(1, 6) = 0",
                "marked(2, 6) = 1", "marked(4, 6) = 3");
    }

    private static void parts() {
        of("PARTS, 8 at most, each from a PAGE on up to ahead of the next one's", "FILL 10", "flow(1) = 10", "part(8, 0, 1, 0) = 1",
                "part(2, 2, 5, 65) = 2", "part(4, 2, 5, 66) = 3", "LABEL 1 = 2", "LABEL 2 = A-5", "LABEL 3 = A-6", "LABEL 4 = B-5",
                "LABEL 7 = B-8", "LABEL 8 = i", "LABEL 9 = ii", "part(3, 1, 9, 0) = 4", "LABEL 2 = A-5", "LABEL 3 = 9", "LABEL 4 = B-5",
                "part(0, 1, 50, 0) = 5", "LABEL 0 = 50", "LABEL 1 = 51", "LABEL 2 = A-5");
        of("PARTS, 8 at most, each from a PAGE on up to ahead of the next one's", "part(7, 1, 1, 0) = 1", "part(6, 1, 1, 0) = 2",
                "part(5, 1, 1, 0) = 3", "part(4, 1, 1, 0) = 4", "part(3, 1, 1, 0) = 5", "part(2, 1, 1, 0) = 6", "part(1, 1, 1, 0) = 7",
                "part(0, 0, 7, 0) = 8", "REFUSED part(8, 1, 1, 0) = FULL", "part(7, 0, 9, 0) = 8", "LABEL 0 = vii", "FILL 10", "flow(1) = 10",
                "LABEL 6 = 1", "LABEL 7 = ix", "LABEL 9 = xi");
        of("A PAGE ahead of all PARTS: as if a PART began at PAGE 0 with FORM 1, NUMBER 1.", "LABEL 0 = 1", "FILL 30", "LABEL 2 = 3",
                "part(1, 2, 7, 90) = 1", "LABEL 0 = 1", "LABEL 1 = Z-7", "part(0, 2, 7, 65) = 2", "LABEL 0 = A-7", "labelled(1, 1, 0) = NONE");
        of("A PAGE ahead of all PARTS: as if a PART began at PAGE 0 with FORM 1, NUMBER 1.", "FILL 300", "flow(1) = 10", "LABEL 299 = 300",
                "part(299, 0, 1, 0) = 1", "LABEL 298 = 299", "LABEL 299 = i", "labelled(1, 299, 0) = 298", "labelled(1, 300, 0) = NONE");
    }

    private static void labels() {
        of("in a FORM: 0 ROMAN, 1 WHOLE, 2 LETTER, and from a NUMBER on, which goes up by one a PAGE.", "FILL 300", "flow(1) = 10",
                "part(0, 1, 999, 0) = 1", "LABEL 0 = 999", "LABEL 1 = 1000", "LABEL 299 = 1298", "part(0, 2, 999, 90) = 1", "LABEL 0 = Z-999",
                "LABEL 1 = Z-1000", "LABEL 299 = Z-1298", "part(0, 0, 999, 0) = 1", "LABEL 0 = cmxcix", "LABEL 1 = m", "LABEL 2 = mi",
                "LABEL 289 = mcclxxxviii", "LABEL 299 = mccxcviii");
        of("WHOLE: the number in tens", "FILL 2", "flow(1) = 10", "part(0, 1, 1, 0) = 1", "LABEL 0 = 1", "part(0, 1, 9, 0) = 1", "LABEL 0 = 9",
                "LABEL 1 = 10", "part(0, 1, 99, 0) = 1", "LABEL 0 = 99", "LABEL 1 = 100", "part(0, 1, 100, 0) = 1", "LABEL 1 = 101",
                "part(0, 1, 909, 0) = 1", "LABEL 0 = 909", "LABEL 1 = 910");
        of("LETTER: the PART's letter, -, the number in tens.", "FILL 2", "flow(1) = 10", "part(0, 2, 1, 65) = 1", "LABEL 0 = A-1", "LABEL 1 = A-2",
                "part(0, 2, 9, 90) = 1", "LABEL 0 = Z-9", "LABEL 1 = Z-10", "part(0, 2, 999, 77) = 1", "LABEL 0 = M-999", "LABEL 1 = M-1000");
    }

    private static void roman() {
        String words = "ROMAN: in small letters (m 1000, cm 900, d 500, cd 400, c 100, xc 90, l 50, xl 40, x 10, ix 9, v 5, iv 4, i 1,"
                + " the greatest first)";
        String[] tens = {"1 i", "3 iii", "4 iv", "5 v", "6 vi", "8 viii", "9 ix", "10 x", "39 xxxix", "40 xl", "49 xlix", "50 l", "89 lxxxix",
            "90 xc", "99 xcix"};
        String[] hundreds = {"100 c", "399 cccxcix", "400 cd", "499 cdxcix", "500 d", "888 dccclxxxviii", "899 dcccxcix", "900 cm", "999 cmxcix"};
        of(words, romanLines(tens));
        of(words, romanLines(hundreds));
        of(words, "FILL 2", "flow(1) = 10", "part(0, 0, 999, 0) = 1", "LABEL 1 = m");
    }

    private static String[] romanLines(String[] numbers) {
        String[] lines = new String[2 * numbers.length];
        for (int k = 0; k < numbers.length; k++) {
            String[] pair = numbers[k].split(" ");
            lines[2 * k] = "part(0, 0, " + pair[0] + ", 0) = 1";
            lines[2 * k + 1] = "LABEL 0 = " + pair[1];
        }
        return lines;
    }

    private static void theName() {
        of("THE NAME is a row of signs (bytes 32 .. 126), 16 at most.", "name(97, 1) = 1", "name(32, 1) = 2", "name(126, 1) = 3", "head() = 0",
                "sign(0, 0, 1) = 32", "sign(0, 0, 2) = 126", "REFUSED name(31, 1) = OUTSIDE", "REFUSED name(127, 1) = OUTSIDE",
                "name(0x6161616161616161, 8) = 11", "name(0x6161616161, 5) = 16", "REFUSED name(97, 1) = FULL", "told(6) = 16");
        of("THE NAME is a row of signs (bytes 32 .. 126), 16 at most.", "name(97, 1) = 1", "REFUSED name(0x6261616161616161, 9) = OUTSIDE",
                "name(0x6161616161616161, 8) = 9", "REFUSED name(0x6161616161616161, 8) = FULL", "name(0x61616161616161, 7) = 16");
    }

    private static void headSigns() {
        String words = "HEADS 0 .. 29 have signs (1 .. 16, no blank at either end, none behind another), unlike ones all";
        of(words, "REFUSED head() = STATE", "HEAD a = 0", "HEAD abcdefghijklmnop = 1", "HEAD a b = 2", "HEAD a b c = 3", "NAME  a",
                "REFUSED head() = STATE", "NAME a ", "REFUSED head() = STATE", "NAME a  b", "REFUSED head() = STATE", "NAME  ",
                "REFUSED head() = STATE", "NAME a b", "REFUSED head() = STATE", "REFUSED rename(0) = STATE", "HEAD A b = 4");
        of(words, "HEADS 30", "about(29, 0) = 3", "REFUSED about(30, 0) = UNKNOWN", "NAME q9", "REFUSED head() = FULL");
        of("and, if told, others by which they are sorted (as they are THE NAME; they need not be unlike)", "HEADS 2", "SORT 0 q", "SORT 1 q",
                "SIGNS 0 = q", "SIGNS 1 = q", "compare(0, 1, 0) = -101", "SORT 0 b", "compare(0, 1, 0) = -101", "SORT 0 r",
                "compare(0, 1, 0) = -99", "HEAD q = 2", "compare(1, 2, 0) = -101");
    }

    private static void passed() {
        String words = "one of THE TERMS PASSED (4 at most, of letters alone)";
        of(words, "HEAD aa z = 0", "HEAD bb z = 1", "HEAD cc z = 2", "HEAD dd z = 3", "HEAD ee z = 4", "HEAD y = 5", "PASS aa = 1", "PASS bb = 2",
                "PASS cc = 3", "PASS dd = 4", "NAME ee", "REFUSED pass() = FULL", "compare(0, 5, 0) = -99", "compare(1, 5, 0) = -99",
                "compare(2, 5, 0) = -99", "compare(3, 5, 0) = -99", "compare(4, 5, 0) = -101", "compare(0, 3, 1) = -101");
        of(words, "NAME a-b", "REFUSED pass() = STATE", "NAME a1", "REFUSED pass() = STATE", "unname() = 2", "REFUSED pass() = STATE",
                "PASS Az = 1", "NAME aZ", "REFUSED pass() = STATE");
    }

    private static void passedLeftOut() {
        String words = "if those ahead of the first blank, small or great alike, are one of THE TERMS PASSED (4 at most, of letters alone),"
                + " they and that blank are left out.";
        of(words, "HEAD the = 0", "HEAD the b = 1", "HEAD THE c = 2", "HEAD theb = 3", "HEAD the the = 4", "HEAD bb = 5", "HEAD th b = 6",
                "PASS tHe = 1", "compare(1, 5, 0) = -101", "compare(2, 5, 0) = -99", "compare(0, 5, 0) = -99", "compare(3, 2, 0) = -99",
                "compare(4, 2, 0) = -99", "compare(0, 4, 0) = -101", "compare(6, 2, 0) = -99", "compare(6, 5, 1) = -99");
        of(words, "HEAD b the a = 0", "HEAD b the = 1", "HEAD the a the b = 2", "HEAD a the a = 3", "PASS the = 1", "compare(1, 0, 1) = -101",
                "compare(2, 3, 1) = -99", "compare(2, 0, 1) = -101", "compare(3, 0, 0) = -101");
        of(words, "HEAD x = 0", "HEAD y = 1", "SORT 0 the z", "PASS the = 1", "compare(0, 1, 0) = -99", "SORT 0 a the", "compare(0, 1, 0) = -101",
                "SORT 0 The a", "compare(0, 1, 0) = -101", "SORT 0 the", "compare(0, 1, 0) = -101");
        of(words, "HEAD abcdefghijklmn z = 0", "HEAD y = 1", "HEAD z = 2", "compare(0, 1, 0) = -101", "PASS abcdefghijklmn = 1",
                "compare(0, 1, 0) = -99", "compare(0, 2, 0) = -101", "compare(0, 2, 1) = -101");
    }

    private static void keyBits() {
        of("from the signs by which it is sorted (its own, if none are told)", "HEAD m = 0", "HEAD n = 1", "compare(0, 1, 0) = -101", "SORT 0 o",
                "compare(0, 1, 0) = -99", "unname() = 1", "sortAs(0) = 1", "compare(0, 1, 0) = -101", "NAME o", "rename(0) = 1",
                "compare(0, 1, 0) = -99", "SORT 0 m", "compare(0, 1, 0) = -101");
        of("a row of digits (as long as can be): a number", "HEAD a12b = 0", "HEAD a9c = 1", "HEAD a12 = 2", "HEAD a120 = 3", "HEAD 1a2 = 4",
                "HEAD 1a10 = 5", "HEAD 12 = 6", "compare(0, 1, 0) = -99", "compare(2, 0, 0) = -101", "compare(0, 3, 0) = -101",
                "compare(4, 5, 0) = -101", "compare(4, 6, 0) = -101", "compare(6, 5, 1) = -99");
        of("a row of digits (as long as can be): a number", "HEAD a1 2 = 0", "HEAD a12 = 1", "HEAD a1 10 = 2", "HEAD a2 = 3",
                "compare(0, 1, 0) = -101", "compare(0, 2, 0) = -101", "compare(2, 1, 0) = -101", "compare(2, 3, 0) = -101",
                "compare(0, 2, 1) = -101", "compare(2, 3, 1) = -101");
    }

    private static void keyOrders() {
        String words = "by LETTERS (order 0) blanks are left out, by TERMS (1) they are not";
        of(words, "HEAD a b = 0", "HEAD aa = 1", "HEAD ab = 2", "HEAD ac = 3", "compare(0, 1, 0) = -99", "compare(0, 1, 1) = -101",
                "compare(0, 2, 0) = -101", "compare(2, 0, 0) = -99", "compare(0, 2, 1) = -101", "compare(0, 3, 0) = -101");
        of(words, "HEAD a b c d e f g h = 0", "HEAD abcdefgh = 1", "HEAD abcdefgg = 2", "HEAD abcdefgi = 3", "compare(0, 1, 0) = -101",
                "compare(0, 2, 0) = -99", "compare(0, 3, 0) = -101", "compare(0, 2, 1) = -101");
    }

    private static void keyKinds() {
        String words = "nothing more is ahead of all, a blank ahead of signs, these ahead of numbers, these ahead of letters";
        of(words, "HEAD m = 0", "HEAD m z = 1", "HEAD m! = 2", "HEAD m~ = 3", "HEAD m0 = 4", "HEAD m999 = 5", "HEAD ma = 6",
                "compare(0, 1, 1) = -101", "compare(1, 2, 1) = -101", "compare(2, 3, 1) = -101", "compare(3, 4, 1) = -101",
                "compare(4, 5, 1) = -101", "compare(5, 6, 1) = -101", "compare(0, 2, 0) = -101", "compare(3, 4, 0) = -101",
                "compare(5, 6, 0) = -101", "compare(0, 4, 0) = -101", "compare(0, 6, 0) = -101", "compare(1, 6, 0) = -99",
                "compare(6, 1, 1) = -99", "compare(2, 1, 1) = -99", "compare(4, 3, 1) = -99", "compare(6, 5, 1) = -99");
        of("signs by their bytes", "HEAD ! = 0", "HEAD / = 1", "HEAD : = 2", "HEAD @ = 3", "HEAD [ = 4", "HEAD ` = 5", "HEAD { = 6", "HEAD ~ = 7",
                "HEAD 0 = 8", "HEAD 9 = 9", "HEAD A = 10", "HEAD z = 11", "compare(0, 1, 0) = -101", "compare(1, 2, 0) = -101",
                "compare(2, 3, 0) = -101", "compare(3, 4, 0) = -101", "compare(4, 5, 0) = -101", "compare(5, 6, 0) = -101",
                "compare(6, 7, 0) = -101", "compare(7, 8, 0) = -101", "compare(8, 9, 0) = -101", "compare(9, 10, 0) = -101",
                "compare(10, 11, 0) = -101", "compare(7, 0, 1) = -99");
    }

    private static void keyNumbers() {
        String words = "numbers by what they are (0s ahead of them do not count)";
        of(words, "HEAD 9 = 0", "HEAD 10 = 1", "HEAD 010 = 2", "HEAD 0 = 3", "HEAD 00 = 4", "HEAD 1 = 5", "HEAD 09a = 6", "HEAD 9b = 7",
                "compare(0, 1, 0) = -101", "compare(0, 2, 0) = -101", "compare(2, 1, 0) = -101", "compare(3, 4, 0) = -101",
                "compare(4, 5, 0) = -101", "compare(6, 7, 0) = -101", "compare(0, 6, 0) = -101");
        of(words, "HEAD 9999999999999999 = 0", "HEAD 9999999999999998 = 1", "HEAD 4294967296 = 2", "HEAD 1 = 3", "HEAD 2147483648 = 4",
                "HEAD 2147483647 = 5", "HEAD 0000000000000002 = 6", "compare(0, 1, 0) = -99", "compare(2, 3, 0) = -99",
                "compare(4, 5, 0) = -99", "compare(2, 4, 0) = -99", "compare(6, 3, 0) = -99", "compare(6, 5, 0) = -101",
                "compare(3, 0, 1) = -101");
    }

    private static void keyLetters() {
        of("letters by the alphabet.", "HEAD a = 0", "HEAD B = 1", "HEAD c = 2", "HEAD Y = 3", "HEAD z = 4", "HEAD Z = 5", "HEAD A = 6",
                "compare(0, 1, 0) = -101", "compare(1, 2, 0) = -101", "compare(2, 3, 0) = -101", "compare(3, 4, 0) = -101",
                "compare(5, 4, 0) = -101", "compare(6, 0, 0) = -101", "compare(0, 5, 0) = -101", "compare(6, 1, 1) = -101");
        of("a letter, small and great alike", "HEAD aB = 0", "HEAD Abc = 1", "HEAD AB = 2", "HEAD ab = 3", "compare(0, 1, 0) = -101",
                "compare(3, 1, 0) = -101", "compare(2, 0, 0) = -101", "compare(0, 3, 0) = -101", "compare(1, 3, 0) = -99");
    }

    private static void likeKeys() {
        String words = "If nothing parts them: by the HEADS' own signs, byte by byte, one that the other begins with first.";
        of(words, "HEAD b = 0", "HEAD bc = 1", "HEAD B = 2", "HEAD a = 3", "SORT 0 k", "SORT 1 k", "SORT 2 K", "SORT 3 K", "compare(0, 1, 0) = -101",
                "compare(1, 0, 0) = -99", "compare(2, 0, 0) = -101", "compare(2, 3, 0) = -101", "compare(3, 0, 1) = -101",
                "compare(1, 3, 1) = -99", "compare(0, 0, 0) = -100");
        of(words, "HEAD a1 = 0", "HEAD a01 = 1", "HEAD a 1 = 2", "HEAD the a1 = 3", "PASS the = 1", "compare(1, 0, 0) = -101", "compare(2, 1, 0) = -101",
                "compare(3, 0, 0) = -99", "compare(3, 0, 1) = -99", "compare(2, 0, 1) = -101");
        of(words, "HEAD abcdefghijklmnop = 0", "HEAD abcdefghijklmno = 1", "HEAD abcdefghijklmnoq = 2", "SORT 0 k", "SORT 1 k", "SORT 2 k",
                "compare(1, 0, 0) = -101", "compare(0, 2, 0) = -101", "compare(2, 1, 0) = -99");
    }

    private static void marks() {
        of("A PATH is 1 to 3 HEADS", "HEADS 3", "mark(0, 0, 0, NONE, NONE, 0) = 0", "mark(0, 0, 0, 1, NONE, 0) = 1", "mark(0, 0, 0, 1, 2, 0) = 2",
                "REFUSED mark(0, 0, NONE, NONE, NONE, 0) = UNKNOWN", "build(0, 0, 0) = 3", "entry(0, 6) = 1", "entry(1, 6) = 2", "entry(2, 6) = 3");
        of("MARKS are numbered from 0 on, 50 ever", "HEADS 2", "COUNT 25 mark(0, 0, 0, NONE, NONE, 0) = 0", "COUNT 25 see(0, 0, 1, true) = 25",
                "REFUSED mark(0, 0, 0, NONE, NONE, 0) = FULL", "REFUSED see(0, 0, 1, true) = FULL", "drop(49) = 1", "drop(10) = 1",
                "REFUSED mark(0, 0, 0, NONE, NONE, 0) = FULL", "REFUSED see(0, 0, 1, true) = FULL", "told(4) = 48");
        of("NOTE (4; of a note 1 .. 99)", "HEAD a = 0", "REFUSED mark(0, 4, 0, NONE, NONE, 0) = OUTSIDE", "mark(0, 4, 0, NONE, NONE, 1) = 0",
                "mark(0, 4, 0, NONE, NONE, 99) = 1", "REFUSED mark(0, 4, 0, NONE, NONE, 100) = OUTSIDE");
        of("from a HEAD to another HEAD", "HEADS 2", "REFUSED see(0, 0, 0, false) = STATE", "REFUSED see(0, 1, 1, true) = STATE",
                "see(0, 0, 1, false) = 0", "REFUSED meld(0, 1) = STATE", "REFUSED meld(1, 0) = STATE");
    }

    private static void marksAtOneGap() {
        of("MARKS at one GAP are in the order of their numbers.", "HEAD a = 0", "FILL 30", "mark(5, 2, 0, NONE, NONE, 0) = 0",
                "mark(5, 1, 0, NONE, NONE, 0) = 1", "mark(25, 2, 0, NONE, NONE, 0) = 2", "mark(25, 1, 0, NONE, NONE, 0) = 3", "build(0, 0, 0) = 1",
                "PLACES 0 = R0-2", "UNMATCHED = 0 3");
        of("MARKS at one GAP are in the order of their numbers.", "HEAD a = 0", "FILL 4", "flow(1) = 10", "mark(4, 1, 0, NONE, NONE, 0) = 0",
                "mark(3, 2, 0, NONE, NONE, 0) = 1", "build(0, 0, 0) = 1", "UNMATCHED = 0 1", "take(3) = 3", "GAPS = 3 3", "build(0, 0, 0) = 1",
                "UNMATCHED = ", "PLACES 0 = R2-2");
    }

    private static void wordPut() {
        String words = "A word that is put comes ahead of what is at its place; MARKS at GAPS behind that place go one on; those at it stay.";
        of(words, "HEAD a = 0", Edges.point(0, 0, 0), "put(0, 1) = 1", "GAPS = 0", Edges.point(1, 0, 1), "put(1, 2) = 2", "GAPS = 0 1",
                "put(0, 3) = 3", "GAPS = 0 2", "WORDS = 3 1 2", Edges.point(3, 0, 2), "put(2, 4) = 4", "GAPS = 0 2 4", "put(4, 5) = 5",
                "GAPS = 0 2 4", "put(1, 6) = 6", "GAPS = 0 3 5", "WORDS = 3 6 1 4 2 5");
        of(words, "HEAD a = 0", "FILL 299", Edges.point(299, 0, 0), Edges.point(0, 0, 1), "put(299, 1) = 300", "GAPS = 299 0", "undo() = 39",
                "put(0, 1) = 300", "GAPS = 300 0", "undo() = 39", "put(298, 1) = 300", "GAPS = 300 0");
    }

    private static void wordTaken() {
        String words = "A word that is taken takes nothing with it: MARKS at GAPS behind it go one back (those just behind it lie at its place then).";
        of(words, "HEAD a = 0", "FILL 3", Edges.point(0, 0, 0), Edges.point(1, 0, 1), Edges.point(2, 0, 2), Edges.point(3, 0, 3), "take(2) = 2",
                "GAPS = 0 1 2 2", "take(0) = 0", "GAPS = 0 0 1 1", "take(0) = 1", "GAPS = 0 0 0 0", "told(4) = 4");
        of(words, "HEAD a = 0", "FILL 300", Edges.point(300, 0, 0), Edges.point(299, 0, 1), Edges.point(1, 0, 2), "take(299) = 299", "GAPS = 299 299 1",
                "take(0) = 0", "GAPS = 298 298 0", "undo() = 39", "undo() = 38", "GAPS = 300 299 1");
    }

    private static void wordsMoved() {
        String words = "Words that are moved take with them MARKS at the GAPS just behind each of them.";
        of(words, "HEAD a = 0", "FILL 4", Edges.point(0, 0, 0), Edges.point(1, 0, 1), Edges.point(2, 0, 2), Edges.point(3, 0, 3),
                Edges.point(4, 0, 4), "move(0, 1, 3) = 1", "GAPS = 0 4 1 2 3", "move(3, 1, 0) = 1", "GAPS = 0 1 2 3 4", "move(1, 2, 0) = 2",
                "GAPS = 0 3 1 2 4", "move(0, 2, 1) = 2", "GAPS = 0 1 2 3 4", "move(0, 4, 0) = 4", "GAPS = 0 1 2 3 4", "move(1, 2, 1) = 2",
                "GAPS = 0 1 2 3 4", "move(2, 2, 0) = 2", "GAPS = 0 3 4 1 2", "move(1, 0, 3) = 0", "GAPS = 0 3 4 1 2", "WORDS = 2 3 0 1");
        of(words, "HEAD a = 0", "FILL 300", Edges.point(300, 0, 0), Edges.point(1, 0, 1), Edges.point(0, 0, 2), Edges.point(150, 0, 3),
                "move(299, 1, 0) = 1", "GAPS = 1 2 0 151", "move(0, 299, 1) = 299", "GAPS = 2 3 0 152");
    }

    private static void allMarksWithWords() {
        of("MARKS at GAPS behind that place go one on; those at it stay.", "HEAD a = 0", "FILL 4", "COUNT 49 mark(2, 0, 0, NONE, NONE, 0) = 0",
                "mark(3, 0, 0, NONE, NONE, 0) = 49", "put(2, 9) = 5", "marked(0, 1) = 2", "marked(48, 1) = 2", "marked(49, 1) = 4", "put(0, 9) = 6",
                "marked(0, 1) = 3", "marked(49, 1) = 5", "told(4) = 50");
        of("MARKS at GAPS behind it go one back", "HEAD a = 0", "FILL 4", "COUNT 49 mark(2, 0, 0, NONE, NONE, 0) = 0",
                "mark(3, 0, 0, NONE, NONE, 0) = 49", "take(2) = 2", "marked(0, 1) = 2", "marked(48, 1) = 2", "marked(49, 1) = 2", "take(0) = 0",
                "marked(0, 1) = 1", "marked(49, 1) = 1", "told(4) = 50");
        of("Words that are moved take with them MARKS at the GAPS just behind each of them.", "HEAD a = 0", "FILL 4",
                "COUNT 49 mark(2, 0, 0, NONE, NONE, 0) = 0", "mark(3, 0, 0, NONE, NONE, 0) = 49", "move(1, 1, 3) = 1", "marked(0, 1) = 4",
                "marked(48, 1) = 4", "marked(49, 1) = 2", "move(1, 1, 0) = 1", "marked(49, 1) = 1", "marked(0, 1) = 4", "told(4) = 50");
    }

    private static void bodies() {
        of("(an int that wraps, 0 at first, becomes 31 times it and the number)", wrapping());
        of("by bodies that leave their number in TRACE", "HEADS 2", "mark(0, 3, 0, NONE, NONE, 0) = 0", "trace() = 0", "marked(0, 0) = 3",
                "tell(1) = UNKNOWN", "trace() = 0", "tell(0) = 10", "trace() = " + (2 * 31 + 1), "see(0, 0, 1, true) = 1", "show(1) = CAST",
                "trace() = 63", "tell(1) = 6", "trace() = " + ((63 * 31 + 5) * 31 + 4));
        of("POINT (1): 1; OPEN, CLOSE none of their own: POINT's", "HEAD a = 0", Edges.point(0, 0, 0), "mark(0, 1, 0, NONE, NONE, 0) = 1",
                "mark(0, 2, 0, NONE, NONE, 0) = 2", "tell(0) = 1", "trace() = 1", "tell(1) = 1", "trace() = 32", "tell(2) = 1", "trace() = 993");
        of("MAIN (2): ten times what POINT's gives", "HEAD a = 0", "mark(0, 3, 0, NONE, NONE, 0) = 0", "tell(0) = 10", "trace() = 63");
        of("NOTE (3): what POINT's gives and the note", "HEAD a = 0", "mark(0, 4, 0, NONE, NONE, 1) = 0", "mark(0, 4, 0, NONE, NONE, 99) = 1",
                "tell(0) = 2", "trace() = 94", "tell(1) = 100", "trace() = " + (94 * 961 + 94));
        of("PICTURE none of its own: POINT's", "HEAD a = 0", "mark(0, 5, 0, NONE, NONE, 9) = 0", "tell(0) = 1", "trace() = 1");
        of("SEE (4): 5; ALSO (5): what SEE's gives and 1.", "HEADS 2", "see(0, 0, 1, false) = 0", "see(0, 0, 1, true) = 1", "tell(0) = 5",
                "trace() = 4", "tell(1) = 6", "trace() = " + ((4 * 31 + 5) * 31 + 4));
        of("SHOWN by a lent body (6): 100 and its GAP; MAIN has its own (7): 200 and its GAP.", "HEAD a = 0", "FILL 2", Edges.point(0, 0, 0),
                "mark(2, 1, 0, NONE, NONE, 0) = 1", "mark(1, 2, 0, NONE, NONE, 0) = 2", "mark(0, 3, 0, NONE, NONE, 0) = 3",
                "mark(2, 3, 0, NONE, NONE, 0) = 4", "mark(2, 4, 0, NONE, NONE, 50) = 5", "mark(1, 5, 0, NONE, NONE, 0) = 6", "show(0) = 100",
                "trace() = 6", "show(1) = 102", "trace() = 192", "show(2) = 101", "show(3) = 200", "trace() = " + ((192 * 31 + 6) * 31 + 7),
                "show(4) = 202", "show(5) = 102", "show(6) = 101");
    }

    private static String[] wrapping() {
        String[] lines = new String[2 + 2 * 14];
        lines[0] = "HEAD a = 0";
        lines[1] = "mark(0, 4, 0, NONE, NONE, 2) = 0";
        int trace = 0;
        for (int k = 0; k < 14; k++) {
            trace = k % 2 == 0 ? (31 * trace + 3) * 31 + 1 : 31 * trace + 6;
            lines[2 + 2 * k] = k % 2 == 0 ? "tell(0) = 3" : "show(0) = 100";
            lines[3 + 2 * k] = "trace() = " + trace;
        }
        return lines;
    }
}
