import java.io.IOException;
import java.util.ArrayList;
import java.util.List;

/** The edges of promises 11 to 20, each by the words that name it. */
public final class HeadEdgeTest {
    private static final long EIGHT = 0x6161616161616161L;

    public static void main(String[] args) throws IOException {
        name();
        nameRefused();
        unname();
        head();
        headRefused();
        sortAs();
        sortAsRefused();
        pass();
        about();
        sign();
        compare();
        rename();
        renameRefused();
        meld();
        meldRefused();
        Edges.end(args, 11, 20);
    }

    private static void name() {
        String words = "The n lowest bytes of w (1 to 8), the highest of these first, come behind THE NAME: how many it has.";
        Edges.of(11, words,
                "name(0x6162636465666768, 1) = 1", "head() = 0", "SIGNS 0 = h", "unname() = 1", "name(0x6162636465666768, 8) = 8",
                "head() = 1", "SIGNS 1 = abcdefgh", "name(0x2020202020206a7e, 2) = 10", "head() = 2", "SIGNS 2 = abcdefghj~",
                "unname() = 10", "name(0x7e20212223242521, 8) = 8", "head() = 3", "SIGNS 3 = ~ !\"#$%!");
        Edges.of(11, words,
                "name(-159, 1) = 1", "name(-40606, 2) = 3", "name(0x1f61, 1) = 4", "name(0x7f62, 1) = 5", "name(0x63, 1) = 6",
                "head() = 0", "SIGNS 0 = aababc");
        Edges.of(11, words,
                "name(0x4141414141414141, 8) = 8", "name(0x4242424242424242, 8) = 16", "head() = 0", "SIGNS 0 = AAAAAAAABBBBBBBB",
                "told(6) = 16");
    }

    private static void nameRefused() {
        String words = "OUTSIDE: n; a byte is not 32 .. 126";
        Edges.of(11, words,
                "REFUSED name(97, 0) = OUTSIDE", "REFUSED name(" + EIGHT + ", 9) = OUTSIDE", "REFUSED name(97, -1) = OUTSIDE",
                "REFUSED name(97, LEAST) = OUTSIDE", "REFUSED name(" + EIGHT + ", MOST) = OUTSIDE", "name(97, 1) = 1",
                "REFUSED name(97, 0) = OUTSIDE", "name(" + EIGHT + ", 8) = 9");
        Edges.of(11, words,
                "REFUSED name(31, 1) = OUTSIDE", "REFUSED name(127, 1) = OUTSIDE", "REFUSED name(0, 1) = OUTSIDE",
                "REFUSED name(128, 1) = OUTSIDE", "REFUSED name(255, 1) = OUTSIDE", "REFUSED name(-1, 1) = OUTSIDE",
                "name(32, 1) = 1", "name(126, 1) = 2", "REFUSED name(127, 1) = OUTSIDE");
        List<String> each = new ArrayList<>();
        for (int k = 0; k < 8; k++) {
            for (long wrong : new long[] {31, 127, 225}) {
                long w = EIGHT & ~(255L << 8 * k) | wrong << 8 * k;
                each.add("REFUSED name(" + w + ", 8) = OUTSIDE");
            }
        }
        each.add("name(" + EIGHT + ", 8) = 8");
        Edges.of(11, words, each.toArray(new String[0]));
        Edges.of(11, "FULL.",
                "NAME abcdefghijklmno", "REFUSED name(0x6161, 2) = FULL", "name(97, 1) = 16", "REFUSED name(97, 1) = FULL",
                "REFUSED name(" + EIGHT + ", 8) = FULL", "REFUSED name(31, 1) = OUTSIDE", "REFUSED name(97, 9) = OUTSIDE",
                "head() = 0", "SIGNS 0 = abcdefghijklmnoa", "NAME abcdefghi", "REFUSED name(" + EIGHT + ", 8) = FULL",
                "name(0x61616161616161, 7) = 16");
    }

    private static void unname() {
        Edges.of(12, "THE NAME has nothing: how many signs it had.",
                "unname() = 0", "unname() = 0", "name(97, 1) = 1", "unname() = 1", "told(6) = 0", "unname() = 0",
                "NAME abcdefghijklmnop", "unname() = 16", "told(6) = 0", "head() = STATE", "name(98, 1) = 1", "head() = 0",
                "SIGNS 0 = b");
    }

    private static void head() {
        Edges.of(13, "A HEAD with THE NAME as its signs (that stays): its number.",
                "HEAD a = 0", "told(6) = 1", "name(98, 1) = 2", "head() = 1", "SIGNS 1 = ab", "SIGNS 0 = a", "told(6) = 2",
                "HEAD abcdefghijklmnop = 2", "about(2, 0) = 16", "HEAD a b c d e f g h = 3", "SIGNS 3 = a b c d e f g h",
                "HEAD ~ = 4", "HEAD ! = 5", "told(3) = 6");
    }

    private static void headRefused() {
        Edges.of(13, "STATE: they are not as told, or a HEAD's",
                "REFUSED head() = STATE", "NAME  ", "REFUSED head() = STATE", "NAME  a", "REFUSED head() = STATE", "NAME a ",
                "REFUSED head() = STATE", "NAME a  b", "REFUSED head() = STATE", "NAME a b  c", "REFUSED head() = STATE",
                "HEAD a b = 0", "REFUSED head() = STATE", "HEAD A b = 1", "HEAD a = 2", "REFUSED head() = STATE", "HEAD a bc = 3",
                "HEAD b = 4", "NAME a b", "REFUSED head() = STATE");
        Edges.of(13, "STATE: they are not as told, or a HEAD's",
                "HEAD a = 0", "HEAD b = 1", "SORT 0 c", "head() = 2", "NAME d", "rename(0) = 1", "REFUSED head() = STATE",
                "HEAD a = 3", "meld(1, 2) = 0", "HEAD b = 4", "undo() = 7", "undo() = 6", "REFUSED head() = STATE", "undo() = 5",
                "undo() = 4", "HEAD e = 3", "NAME d", "head() = 4");
        Edges.of(13, "FULL: 30 ever.",
                "HEADS 29", "HEAD last = 29", "NAME more", "REFUSED head() = FULL", "NAME last", "REFUSED head() = STATE",
                "unname() = 4", "REFUSED head() = STATE", "meld(29, 0) = 0", "told(3) = 29", "NAME more", "REFUSED head() = FULL",
                "meld(0, 1) = 0", "REFUSED head() = FULL", "undo() = 31", "undo() = 30", "REFUSED head() = FULL", "undo() = 29",
                "head() = 29", "about(29, 0) = 4", "NAME yet", "REFUSED head() = FULL");
    }

    private static void sortAs() {
        Edges.of(14, "A HEAD is sorted by THE NAME; by its own signs, if THE NAME has none: 1.",
                "HEAD b = 0", "HEAD c = 1", "unname() = 1", "sortAs(0) = 1", "SIGNS 0 = b", "SORT 0 d", "SIGNS 0 = d",
                "compare(0, 1, 0) = -99", "SORT 1 d", "compare(0, 1, 0) = -101", "SORT 1 abcdefghijklmnop",
                "SIGNS 1 = abcdefghijklmnop", "SORT 1 a b c d e f g h", "SIGNS 1 = a b c d e f g h", "unname() = 15",
                "sortAs(1) = 1", "SIGNS 1 = c", "told(8) = 8", "SORT 1 c", "SIGNS 1 = c", "NAME e", "rename(1) = 1", "SIGNS 1 = c");
        Edges.of(14, "A HEAD is sorted by THE NAME; by its own signs, if THE NAME has none: 1.",
                "HEADS 30", "NAME 0", "sortAs(29) = 1", "sortAs(0) = 1", "compare(29, 28, 0) = -101", "compare(0, 28, 0) = -101",
                "SIGNS 29 = 0", "about(29, 0) = 3");
    }

    private static void sortAsRefused() {
        Edges.of(14, "UNKNOWN",
                "REFUSED sortAs(0) = UNKNOWN", "NAME a", "REFUSED sortAs(0) = UNKNOWN", "HEAD a = 0", "HEAD b = 1", "NAME c",
                "REFUSED sortAs(2) = UNKNOWN", "REFUSED sortAs(-1) = UNKNOWN", "REFUSED sortAs(NONE) = UNKNOWN",
                "REFUSED sortAs(30) = UNKNOWN", "REFUSED sortAs(LEAST) = UNKNOWN", "REFUSED sortAs(MOST) = UNKNOWN",
                "meld(0, 1) = 0", "REFUSED sortAs(0) = UNKNOWN", "sortAs(1) = 1", "NAME c ", "REFUSED sortAs(0) = UNKNOWN");
        Edges.of(14, "STATE: a blank at an end, or behind another.",
                "HEAD a = 0", "NAME  b", "REFUSED sortAs(0) = STATE", "NAME b ", "REFUSED sortAs(0) = STATE", "NAME b  c",
                "REFUSED sortAs(0) = STATE", "NAME b c  d", "REFUSED sortAs(0) = STATE", "NAME  ", "REFUSED sortAs(0) = STATE",
                "NAME   ", "REFUSED sortAs(0) = STATE", "NAME b c d", "sortAs(0) = 1", "SIGNS 0 = b c d");
    }

    private static void pass() {
        Edges.of(15, "STATE: it is not of letters, has none, or is one already (small and great alike)",
                "REFUSED pass() = STATE", "NAME @", "REFUSED pass() = STATE", "NAME [", "REFUSED pass() = STATE", "NAME `",
                "REFUSED pass() = STATE", "NAME {", "REFUSED pass() = STATE", "NAME 0", "REFUSED pass() = STATE", "NAME a b",
                "REFUSED pass() = STATE", "NAME a ", "REFUSED pass() = STATE", "NAME  a", "REFUSED pass() = STATE", "NAME a1",
                "REFUSED pass() = STATE", "NAME 1a", "REFUSED pass() = STATE", "PASS azAZ = 1", "REFUSED pass() = STATE",
                "NAME AZaz", "REFUSED pass() = STATE", "PASS az = 2", "PASS azAZa = 3");
        Edges.of(15, "STATE: it is not of letters, has none, or is one already (small and great alike)",
                "PASS a = 1", "PASS z = 2", "PASS abcdefghijklmnop = 3", "NAME A", "REFUSED pass() = STATE", "NAME Z",
                "REFUSED pass() = STATE", "NAME ABCDEFGHIJKLMNOP", "REFUSED pass() = STATE", "PASS ABCDEFGHIJKLMNO = 4",
                "told(8) = 0", "undo() = STATE");
        Edges.of(15, "THE NAME is one of THE TERMS PASSED: how many there are.",
                "HEAD a z = 0", "HEAD y = 1", "told(7) = 0", "PASS b = 1", "compare(0, 1, 0) = -101", "PASS A = 2", "told(6) = 1", "told(7) = 2",
                "compare(0, 1, 0) = -99", "unname() = 1", "compare(0, 1, 0) = -99", "PASS abcdefghijklmnop = 3", "PASS z = 4", "told(7) = 4");
        Edges.of(15, "FULL.",
                "PASS a = 1", "PASS b = 2", "PASS c = 3", "PASS d = 4", "NAME e", "REFUSED pass() = FULL", "told(7) = 4", "NAME D",
                "REFUSED pass() = STATE", "NAME 1", "REFUSED pass() = STATE", "unname() = 1", "REFUSED pass() = STATE",
                "HEAD e b = 0", "HEAD d z = 1", "HEAD c = 2", "compare(0, 2, 1) = -99", "compare(1, 2, 1) = -99");
    }

    private static void about() {
        Edges.of(16, "Of a HEAD: how many signs (what 0), by how many it is sorted (1).",
                "HEAD a = 0", "about(0, 0) = 1", "about(0, 1) = 1", "SORT 0 abcdefghijklmnop", "about(0, 0) = 1", "about(0, 1) = 16",
                "unname() = 16", "sortAs(0) = 1", "about(0, 1) = 1", "HEAD abcdefghijklmnop = 1", "about(1, 0) = 16", "SORT 1 b",
                "about(1, 0) = 16", "about(1, 1) = 1");
        Edges.of(16, "UNKNOWN; OUTSIDE.",
                "REFUSED about(0, 0) = UNKNOWN", "HEAD a = 0", "HEAD b = 1", "REFUSED about(0, 2) = OUTSIDE",
                "REFUSED about(0, -1) = OUTSIDE", "REFUSED about(0, LEAST) = OUTSIDE", "REFUSED about(0, MOST) = OUTSIDE",
                "REFUSED about(2, 0) = UNKNOWN", "REFUSED about(-1, 0) = UNKNOWN", "REFUSED about(30, 0) = UNKNOWN",
                "REFUSED about(LEAST, 1) = UNKNOWN", "REFUSED about(MOST, 1) = UNKNOWN", "REFUSED about(2, 2) = UNKNOWN",
                "meld(1, 0) = 0", "REFUSED about(1, 0) = UNKNOWN", "REFUSED about(1, -1) = UNKNOWN");
    }

    private static void sign() {
        Edges.of(17, "Sign i of a HEAD (what 0), of those by which it is sorted (1); NONE.",
                "HEAD ~ = 0", "sign(0, 0, 0) = 126", "sign(0, 0, 1) = NONE", "sign(0, 0, -1) = NONE", "sign(0, 1, 0) = 126",
                "sign(0, 1, 1) = NONE", "SORT 0 a !", "sign(0, 1, 0) = 97", "sign(0, 1, 1) = 32", "sign(0, 1, 2) = 33",
                "sign(0, 1, 3) = NONE", "sign(0, 1, -1) = NONE", "sign(0, 0, 0) = 126", "sign(0, 0, 1) = NONE",
                "sign(0, 0, LEAST) = NONE", "sign(0, 1, MOST) = NONE", "HEAD abcdefghijklmnop = 1", "sign(1, 0, 15) = 112",
                "sign(1, 0, 16) = NONE", "sign(1, 1, 15) = 112", "sign(1, 1, 16) = NONE");
        Edges.of(17, "UNKNOWN; OUTSIDE.",
                "REFUSED sign(0, 0, 0) = UNKNOWN", "HEAD a = 0", "HEAD b = 1", "REFUSED sign(0, 2, 0) = OUTSIDE",
                "REFUSED sign(0, -1, 0) = OUTSIDE", "REFUSED sign(0, 2, 5) = OUTSIDE", "REFUSED sign(0, LEAST, 0) = OUTSIDE",
                "REFUSED sign(0, MOST, 0) = OUTSIDE", "REFUSED sign(2, 0, 0) = UNKNOWN", "REFUSED sign(-1, 0, 0) = UNKNOWN",
                "REFUSED sign(30, 0, 0) = UNKNOWN", "REFUSED sign(MOST, 0, 0) = UNKNOWN", "REFUSED sign(LEAST, 0, 0) = UNKNOWN",
                "REFUSED sign(2, 2, 0) = UNKNOWN", "REFUSED sign(2, 0, 9) = UNKNOWN", "meld(1, 0) = 0",
                "REFUSED sign(1, 0, 0) = UNKNOWN");
    }

    private static void compare() {
        Edges.of(18, "-1, 0, 1: a HEAD comes ahead of another one by an order 0, 1, is the same, comes behind it; less 100.",
                "HEADS 30", "compare(0, 29, 0) = -101", "compare(29, 0, 0) = -99", "compare(29, 29, 0) = -100",
                "compare(0, 0, 1) = -100", "compare(0, 29, 1) = -101", "compare(29, 0, 1) = -99", "compare(28, 29, 1) = -101");
        Edges.of(18, "UNKNOWN; OUTSIDE.",
                "REFUSED compare(0, 0, 0) = UNKNOWN", "HEAD a = 0", "HEAD b = 1", "REFUSED compare(0, 1, 2) = OUTSIDE",
                "REFUSED compare(0, 1, -1) = OUTSIDE", "REFUSED compare(0, 0, LEAST) = OUTSIDE", "REFUSED compare(0, 0, MOST) = OUTSIDE",
                "REFUSED compare(2, 0, 0) = UNKNOWN", "REFUSED compare(0, 2, 0) = UNKNOWN", "REFUSED compare(-1, 0, 0) = UNKNOWN",
                "REFUSED compare(0, -1, 0) = UNKNOWN", "REFUSED compare(2, 2, 0) = UNKNOWN", "REFUSED compare(0, 2, 2) = UNKNOWN",
                "REFUSED compare(2, 0, -1) = UNKNOWN", "REFUSED compare(MOST, 0, 0) = UNKNOWN", "REFUSED compare(0, LEAST, 0) = UNKNOWN",
                "meld(1, 0) = 0", "REFUSED compare(1, 0, 0) = UNKNOWN", "REFUSED compare(0, 1, 1) = UNKNOWN",
                "REFUSED compare(1, 1, 0) = UNKNOWN");
    }

    private static void rename() {
        Edges.of(19, "The HEAD becomes one with THE NAME as its signs: 1.",
                "HEADS 30", "NAME z", "rename(29) = STATE", "NAME abcdefghijklmnop", "rename(29) = 1", "SIGNS 29 = abcdefghijklmnop",
                "about(29, 0) = 16", "NAME ~", "rename(0) = 1", "SIGNS 0 = ~", "NAME a", "rename(29) = 1", "SIGNS 29 = a",
                "about(29, 0) = 1", "told(3) = 30", "told(8) = 33", "told(6) = 1");
        Edges.of(19, "The HEAD becomes one with THE NAME as its signs: 1.",
                "HEADS 3", "meld(0, 1) = 0", "NAME a", "rename(1) = 1", "SIGNS 1 = a", "NAME b", "rename(2) = 1", "undo() = 5",
                "SIGNS 2 = c", "undo() = 4", "SIGNS 1 = b", "undo() = 3", "NAME a", "rename(1) = STATE");
    }

    private static void renameRefused() {
        Edges.of(19, "UNKNOWN",
                "REFUSED rename(0) = UNKNOWN", "HEAD a = 0", "HEAD b = 1", "NAME c", "REFUSED rename(2) = UNKNOWN",
                "REFUSED rename(-1) = UNKNOWN", "REFUSED rename(30) = UNKNOWN", "REFUSED rename(LEAST) = UNKNOWN",
                "REFUSED rename(MOST) = UNKNOWN", "meld(1, 0) = 0", "REFUSED rename(1) = UNKNOWN", "unname() = 1",
                "REFUSED rename(1) = UNKNOWN", "NAME a", "REFUSED rename(1) = UNKNOWN");
        Edges.of(19, "STATE: as of head().",
                "HEAD a = 0", "HEAD b = 1", "REFUSED rename(0) = STATE", "REFUSED rename(1) = STATE", "unname() = 1",
                "REFUSED rename(0) = STATE", "NAME  ", "REFUSED rename(0) = STATE", "NAME  c", "REFUSED rename(0) = STATE",
                "NAME c ", "REFUSED rename(0) = STATE", "NAME c  d", "REFUSED rename(0) = STATE", "NAME c d", "rename(0) = 1",
                "REFUSED rename(1) = STATE", "NAME a", "rename(1) = 1", "NAME A", "rename(0) = 1");
    }

    private static void meld() {
        String words = "A HEAD is gone: all MARKS that have it have another one in its place: how many these are.";
        Edges.of(20, words,
                "HEADS 3", "meld(0, 1) = 0", "told(3) = 2", "about(0, 0) = UNKNOWN", "about(1, 0) = 1", "meld(2, 1) = 0",
                "told(3) = 1", "undo() = 4", "told(3) = 2", "about(2, 0) = 1", "about(0, 0) = UNKNOWN");
        Edges.of(20, words,
                "HEADS 3", "mark(0, 0, 0, 0, 0, 0) = 0", "mark(0, 0, 1, 0, 0, 0) = 1", "mark(0, 0, 1, 1, 0, 0) = 2",
                "mark(0, 4, 0, NONE, NONE, 7) = 3", "see(0, 0, 2, false) = 4", "see(0, 2, 0, true) = 5", "mark(0, 0, 1, 2, NONE, 0) = 6",
                "mark(0, 0, 0, NONE, NONE, 0) = 7", "drop(7) = 1", "meld(0, 1) = 6", "marked(0, 2) = 1", "marked(0, 3) = 1",
                "marked(0, 4) = 1", "marked(1, 2) = 1", "marked(1, 3) = 1", "marked(1, 4) = 1", "marked(2, 4) = 1", "marked(3, 2) = 1",
                "marked(3, 3) = NONE", "marked(3, 5) = 7", "marked(4, 2) = 1", "marked(4, 3) = 2", "marked(5, 2) = 2",
                "marked(5, 3) = 1", "marked(6, 3) = 2", "marked(7, 2) = UNKNOWN", "undo() = 12", "undo() = 11", "marked(7, 2) = 0");
        Edges.of(20, words,
                "HEADS 30", "COUNT 50 mark(0, 0, 29, 0, 29, 0) = 0", "meld(29, 1) = 50", "marked(0, 2) = 1", "marked(49, 4) = 1",
                "marked(49, 3) = 0", "meld(0, 28) = 50", "marked(49, 3) = 28", "told(3) = 28", "told(4) = 50", "undo() = 39",
                "marked(0, 3) = 0", "marked(0, 2) = 1", "about(29, 0) = UNKNOWN");
    }

    private static void meldRefused() {
        Edges.of(20, "UNKNOWN",
                "REFUSED meld(0, 1) = UNKNOWN", "REFUSED meld(0, 0) = UNKNOWN", "HEADS 3", "REFUSED meld(3, 0) = UNKNOWN",
                "REFUSED meld(0, 3) = UNKNOWN", "REFUSED meld(-1, 0) = UNKNOWN", "REFUSED meld(0, -1) = UNKNOWN",
                "REFUSED meld(NONE, 0) = UNKNOWN", "REFUSED meld(3, 3) = UNKNOWN", "REFUSED meld(30, 0) = UNKNOWN",
                "REFUSED meld(LEAST, 0) = UNKNOWN", "REFUSED meld(0, MOST) = UNKNOWN", "meld(0, 1) = 0", "REFUSED meld(0, 1) = UNKNOWN",
                "REFUSED meld(1, 0) = UNKNOWN", "REFUSED meld(0, 0) = UNKNOWN", "meld(1, 2) = 0", "REFUSED meld(2, 1) = UNKNOWN");
        Edges.of(20, "STATE: the same HEAD twice; a SEE or ALSO would lead to the HEAD from which it leads.",
                "HEADS 4", "REFUSED meld(0, 0) = STATE", "REFUSED meld(3, 3) = STATE", "see(0, 0, 1, false) = 0",
                "REFUSED meld(0, 1) = STATE", "REFUSED meld(1, 0) = STATE", "see(0, 2, 3, true) = 1", "REFUSED meld(2, 3) = STATE",
                "REFUSED meld(3, 2) = STATE", "mark(0, 0, 0, 2, NONE, 0) = 2", "drop(0) = 1", "meld(1, 0) = 0", "meld(0, 2) = 1",
                "REFUSED meld(2, 3) = STATE");
        Edges.of(20, "STATE: the same HEAD twice; a SEE or ALSO would lead to the HEAD from which it leads.",
                "HEADS 3", "see(0, 0, 1, false) = 0", "see(0, 1, 2, false) = 1", "meld(0, 2) = 1", "marked(0, 2) = 2",
                "REFUSED meld(2, 1) = STATE", "REFUSED meld(1, 2) = STATE", "drop(0) = 1", "REFUSED meld(2, 1) = STATE",
                "drop(1) = 1", "meld(2, 1) = 0", "undo() = 8", "undo() = 7", "REFUSED meld(2, 1) = STATE");
    }
}
