/** Promises 11 to 20: THE NAME, heads, how they are sorted, heads that become other or one. */
public final class HeadTest {
    public static void main(String[] args) {
        name();
        head();
        sortAs();
        pass();
        about();
        compareBits();
        compareOrders();
        comparePassed();
        rename();
        meld();
        meldRefused();
        Calls.end();
    }

    private static void name() {
        Calls.run("11 name and 12 unname",
                "unname() = 0", "name(97, 1) = 1", "name(24930, 1) = 2", "name(25185, 2) = 4", "head() = 0",
                "SIGNS 0 = abba", "told(6) = 4", "name(2314885530818453536, 8) = 12", "name(2122219134, 4) = 16",
                "REFUSED name(97, 1) = FULL", "REFUSED name(31, 1) = OUTSIDE", "told(6) = 16",
                "unname() = 16", "told(6) = 0", "unname() = 0");
        Calls.run("11 name: what is not as told",
                "HEAD z = 0", "NAME q",
                "REFUSED name(97, 0) = OUTSIDE", "REFUSED name(97, -1) = OUTSIDE", "REFUSED name(7016996765293437281, 9) = OUTSIDE",
                "REFUSED name(97, MOST) = OUTSIDE", "REFUSED name(31, 1) = OUTSIDE", "REFUSED name(127, 1) = OUTSIDE",
                "REFUSED name(97, 2) = OUTSIDE", "REFUSED name(8049, 2) = OUTSIDE", "REFUSED name(-1, 8) = OUTSIDE",
                "name(8033, 1) = 2", "name(126, 1) = 3", "name(32, 1) = 4", "name(7016996765293437281, 8) = 12",
                "REFUSED name(418245599585, 5) = FULL", "name(1633771873, 4) = 16", "told(8) = 1");
    }

    private static void head() {
        Calls.run("13 head",
                "REFUSED head() = STATE", "HEAD a = 0", "REFUSED head() = STATE", "HEAD A = 1", "HEAD a b c = 2",
                "HEAD ~!9 = 3", "HEAD abcdefghijklmnop = 4", "told(6) = 16", "told(3) = 5",
                "NAME  a", "REFUSED head() = STATE", "NAME a ", "REFUSED head() = STATE", "NAME a  b",
                "REFUSED head() = STATE", "NAME  ", "REFUSED head() = STATE", "told(3) = 5");
        Calls.run("13 head: 30 ever",
                heads(30, "NAME a0", "REFUSED head() = STATE", "NAME more", "REFUSED head() = FULL", "meld(0, 1) = 0",
                        "told(3) = 29", "NAME a0", "REFUSED head() = FULL", "undo() = 30", "undo() = 29", "NAME b",
                        "head() = 29"));
        Calls.run("13 head: the signs of a head that is gone are free",
                "HEAD a = 0", "HEAD b = 1", "meld(0, 1) = 0", "HEAD a = 2", "told(3) = 2", "about(0, 0) = UNKNOWN",
                "about(2, 0) = 1");
    }

    private static String[] heads(int count, String... then) {
        String[] lines = new String[count + then.length];
        for (int h = 0; h < count; h++) {
            lines[h] = "HEAD a" + h + " = " + h;
        }
        System.arraycopy(then, 0, lines, count, then.length);
        return lines;
    }

    private static void sortAs() {
        Calls.run("14 sortAs",
                "HEAD bb = 0", "HEAD c = 1", "SIGNS 0 = bb", "compare(0, 1, 0) = -101", "SORT 0 d e",
                "SIGNS 0 = d e", "about(0, 0) = 2", "sign(0, 0, 0) = 98", "compare(0, 1, 0) = -99",
                "SORT 1 d e", "compare(0, 1, 0) = -101", "unname() = 3", "sortAs(0) = 1", "SIGNS 0 = bb",
                "NAME  x", "REFUSED sortAs(0) = STATE", "NAME x ", "REFUSED sortAs(0) = STATE",
                "NAME x  y", "REFUSED sortAs(0) = STATE", "REFUSED sortAs(2) = UNKNOWN", "REFUSED sortAs(-1) = UNKNOWN",
                "NAME xy", "REFUSED sortAs(MOST) = UNKNOWN", "meld(0, 1) = 0", "REFUSED sortAs(0) = UNKNOWN");
    }

    private static void pass() {
        Calls.run("15 pass",
                "HEAD a = 0", "unname() = 1", "REFUSED pass() = STATE", "PASS the = 1", "REFUSED pass() = STATE",
                "NAME THE", "REFUSED pass() = STATE", "NAME a b", "REFUSED pass() = STATE", "NAME a1",
                "REFUSED pass() = STATE", "NAME 1a", "REFUSED pass() = STATE", "NAME a-", "REFUSED pass() = STATE", "PASS th = 2", "PASS thee = 3",
                "PASS Zz = 4", "NAME zZ", "REFUSED pass() = STATE", "NAME of", "REFUSED pass() = FULL", "NAME o1",
                "REFUSED pass() = STATE", "told(7) = 4", "told(8) = 1");
    }

    private static void about() {
        Calls.run("16 about and 17 sign",
                "HEAD ab = 0", "SORT 0 xyz", "about(0, 0) = 2", "about(0, 1) = 3", "about(0, 2) = OUTSIDE",
                "about(0, -1) = OUTSIDE", "about(1, 0) = UNKNOWN", "about(1, 7) = UNKNOWN", "about(-1, 0) = UNKNOWN",
                "sign(0, 0, 0) = 97", "sign(0, 0, 1) = 98", "sign(0, 0, 2) = NONE", "sign(0, 0, -1) = NONE",
                "sign(0, 1, 2) = 122", "sign(0, 1, 3) = NONE", "sign(0, 1, MOST) = NONE", "sign(0, 0, LEAST) = NONE",
                "sign(0, 2, 0) = OUTSIDE", "sign(0, -1, 0) = OUTSIDE", "sign(0, 2, 99) = OUTSIDE",
                "sign(1, 0, 0) = UNKNOWN", "sign(1, 2, 0) = UNKNOWN", "sign(30, 0, 0) = UNKNOWN",
                "HEAD q = 1", "meld(0, 1) = 0", "about(0, 0) = UNKNOWN", "sign(0, 0, 0) = UNKNOWN");
    }

    private static void compareBits() {
        Calls.run("18 compare: signs ahead of numbers ahead of letters, each by what it is",
                "HEAD a = 0", "HEAD a! = 1", "HEAD a~ = 2", "HEAD a9 = 3", "HEAD a10 = 4", "HEAD aa = 5", "HEAD aB = 6",
                "HEAD a010 = 7", "HEAD ab = 8",
                "compare(0, 1, 0) = -101", "compare(1, 2, 0) = -101", "compare(2, 3, 0) = -101", "compare(3, 4, 0) = -101",
                "compare(4, 5, 0) = -101", "compare(5, 6, 0) = -101", "compare(7, 4, 0) = -101", "compare(4, 7, 0) = -99",
                "compare(7, 3, 0) = -99", "compare(6, 8, 0) = -101", "compare(8, 6, 1) = -99", "compare(5, 0, 1) = -99",
                "compare(4, 4, 0) = -100", "compare(4, 4, 1) = -100", "compare(4, 4, 2) = OUTSIDE",
                "compare(4, 4, -1) = OUTSIDE", "compare(9, 4, 0) = UNKNOWN", "compare(4, 9, 0) = UNKNOWN",
                "compare(-1, 4, 5) = UNKNOWN");
        Calls.run("18 compare: a number is ahead of a letter and behind a sign, however great it is",
                "HEAD a200 = 0", "HEAD ab = 1", "HEAD a~ = 2", "HEAD a!5 = 3", "HEAD a!b = 4", "HEAD 500 = 5",
                "compare(0, 1, 0) = -101", "compare(0, 2, 0) = -99", "compare(3, 4, 1) = -101", "compare(5, 0, 0) = -101");
        Calls.run("18 compare: numbers of many digits",
                "HEAD 9999999999999999 = 0", "HEAD 1000000000000000 = 1", "HEAD 0000000000000002 = 2", "HEAD 3 = 3",
                "compare(0, 1, 0) = -99", "compare(2, 3, 0) = -101", "compare(3, 1, 0) = -101", "compare(1, 2, 1) = -99");
    }

    private static void compareOrders() {
        Calls.run("18 compare: by letters blanks are left out, by terms they are not",
                "HEAD new york = 0", "HEAD newark = 1", "HEAD newyork = 2", "HEAD new-a = 3", "HEAD new = 4",
                "compare(0, 1, 0) = -99", "compare(0, 1, 1) = -101", "compare(0, 2, 0) = -101", "compare(2, 0, 0) = -99",
                "compare(0, 3, 0) = -99", "compare(0, 3, 1) = -101", "compare(4, 0, 1) = -101", "compare(4, 0, 0) = -101",
                "compare(3, 1, 1) = -101");
        Calls.run("18 compare: digits with a blank between are two numbers in both orders",
                "HEAD a1 2 = 0", "HEAD a12 = 1", "HEAD a1 = 2", "compare(0, 1, 0) = -101", "compare(0, 1, 1) = -101",
                "compare(2, 0, 0) = -101", "compare(2, 0, 1) = -101");
        Calls.run("18 compare: like keys are parted by the heads' own signs",
                "HEAD b = 0", "HEAD B = 1", "HEAD bc = 2", "HEAD bcd = 3", "compare(0, 1, 0) = -99", "SORT 2 b", "SORT 3 b",
                "compare(2, 3, 0) = -101", "compare(3, 2, 1) = -99", "compare(2, 0, 0) = -99", "compare(1, 2, 0) = -101");
    }

    private static void comparePassed() {
        Calls.run("18 compare: terms passed are left out ahead of the first blank, and only there",
                "HEAD the zoo = 0", "HEAD an ape = 1", "HEAD yak = 2", "HEAD the = 3", "HEAD The The Ant = 4",
                "HEAD theme = 5", "compare(0, 2, 0) = -101", "PASS The = 1", "compare(0, 2, 0) = -99",
                "compare(0, 2, 1) = -99", "compare(1, 2, 0) = -101", "compare(3, 2, 0) = -101", "compare(4, 3, 0) = -99",
                "compare(5, 2, 0) = -101", "PASS an = 2", "compare(1, 4, 0) = -101", "SORT 2 the b", "compare(2, 0, 1) = -101",
                "compare(1, 2, 0) = -101", "SORT 0 zoo the", "compare(0, 2, 0) = -99",
                "HEAD the 9 = 6", "HEAD an 10 = 7", "compare(6, 7, 0) = -101");
    }

    private static void rename() {
        Calls.run("19 rename",
                "HEAD a = 0", "HEAD b = 1", "NAME c", "rename(0) = 1", "sign(0, 0, 0) = 99", "SIGNS 0 = c",
                "compare(0, 1, 0) = -99", "REFUSED rename(1) = STATE", "REFUSED rename(0) = STATE", "NAME b",
                "REFUSED rename(0) = STATE", "NAME  d", "REFUSED rename(0) = STATE", "unname() = 2",
                "REFUSED rename(0) = STATE", "REFUSED rename(2) = UNKNOWN", "NAME q", "REFUSED rename(-1) = UNKNOWN",
                "HEAD a = 2", "SORT 2 zz", "NAME x", "rename(2) = 1", "SIGNS 2 = zz", "sign(2, 0, 0) = 120",
                "meld(2, 0) = 0", "NAME y", "REFUSED rename(2) = UNKNOWN", "told(3) = 2");
    }

    private static void meld() {
        Calls.run("20 meld",
                "HEAD a = 0", "HEAD b = 1", "HEAD c = 2", "mark(0, 0, 0, NONE, NONE, 0) = 0", "mark(0, 0, 1, 0, 0, 0) = 1",
                "mark(0, 0, 2, 1, NONE, 0) = 2", "see(0, 0, 2, false) = 3", "see(0, 2, 0, true) = 4",
                "mark(0, 3, 0, NONE, NONE, 0) = 5", "drop(5) = 1", "meld(0, 1) = 4", "marked(0, 2) = 1", "marked(1, 2) = 1",
                "marked(1, 3) = 1", "marked(1, 4) = 1", "marked(2, 2) = 2", "marked(2, 3) = 1", "marked(2, 4) = NONE",
                "marked(3, 2) = 1", "marked(3, 3) = 2", "marked(4, 2) = 2", "marked(4, 3) = 1", "told(3) = 2",
                "about(0, 0) = UNKNOWN", "mark(0, 0, 0, NONE, NONE, 0) = UNKNOWN", "undo() = 10", "undo() = 9",
                "marked(5, 2) = 0", "marked(4, 3) = 0", "marked(1, 3) = 0", "marked(1, 2) = 1", "about(0, 0) = 1");
    }

    private static void meldRefused() {
        Calls.run("20 meld: refused",
                "HEAD a = 0", "HEAD b = 1", "HEAD c = 2", "HEAD d = 3", "see(0, 0, 1, false) = 0", "see(0, 2, 1, true) = 1",
                "REFUSED meld(0, 1) = STATE", "REFUSED meld(1, 0) = STATE", "REFUSED meld(1, 2) = STATE",
                "REFUSED meld(2, 1) = STATE", "REFUSED meld(3, 3) = STATE", "REFUSED meld(4, 4) = UNKNOWN",
                "REFUSED meld(0, 4) = UNKNOWN", "REFUSED meld(-1, 0) = UNKNOWN", "REFUSED meld(0, -9) = UNKNOWN",
                "meld(3, 0) = 0", "REFUSED meld(3, 0) = UNKNOWN", "REFUSED meld(0, 3) = UNKNOWN",
                "mark(0, 0, 0, 1, NONE, 0) = 2", "drop(0) = 1", "meld(0, 1) = 1", "marked(2, 2) = 1", "marked(2, 3) = 1");
    }
}
