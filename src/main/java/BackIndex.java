/**
 * A back index: a book's words on pages, marks between the words, and the entries made of them.
 * The document names what each call does; a refusal or a fault is answered, never thrown.
 */
public final class BackIndex {
    public static final int UNKNOWN = -1, OUTSIDE = -2, STATE = -3, FULL = -4, NONE = -9;

    private static final int FAULT_NULL = 1, FAULT_CAST = 2, FAULT_INDEX = 3, FAULT_SIZE = 4;
    private static final int MOST_WORDS = 300, MOST_PAGES = 300, MOST_PARTS = 8, MOST_SIGNS = 16;
    private static final int MOST_HEADS = 30, MOST_PASSED = 4, MOST_MARKS = 50, MOST_ACTS = 40;
    private static final int MOST_ENTRIES = 3 * MOST_MARKS, PATH_BASE = MOST_HEADS + 1;
    private static final int POINT = 0, OPEN = 1, CLOSE = 2, MAIN = 3, NOTE = 4, PICTURE = 5, SEE = 6, ALSO = 7;
    private static final int GOOD = 0, LOST = 1, ROUND = 2;
    private static final int A_HEAD = 0, A_MARK = 1, A_PAGE = 2, NOTHING = 3;

    private final Kept kept = new Kept();
    private final Heads heads = kept.heads;
    private final Marks marks = kept.marks;
    private final Acts acts = new Acts();
    private final Parts parts = new Parts();
    private final Rows theName = new Rows(1);
    private final Keys keys = new Keys();
    private final Maker maker = new Maker(kept, keys);
    private Index index = new Index();
    private Index former = new Index();
    private int flow = 10;
    private int trace = 0;
    private int fault = 0;
    private int trayKind = NOTHING;
    private int trayNumber = 0;

    public BackIndex() {
    }

    // ---- 1 the book

    public int put(int i, int w) {
        if (!kept.hasGap(i) || w < 0 || w > 9999) {
            return OUTSIDE;
        }
        if (kept.wordCount >= MOST_WORDS) {
            return FULL;
        }
        acts.save(kept);
        kept.insertWord(i, w);
        return kept.wordCount;
    }

    public int take(int i) {
        if (!kept.hasWord(i)) {
            return UNKNOWN;
        }
        acts.save(kept);
        return kept.removeWord(i);
    }

    public int move(int i, int n, int j) {
        if (n < 0) {
            return failed(FAULT_SIZE);
        }
        if (!isWithin(i, n, kept.wordCount) || j < 0 || j > kept.wordCount - n) {
            return failed(FAULT_INDEX);
        }
        fault = 0;
        if (n > 0) {
            acts.save(kept);
            kept.shiftWords(i, n, j);
        }
        return n;
    }

    public int word(int i) {
        return kept.hasWord(i) ? kept.words[i] : UNKNOWN;
    }

    public int flow(int n) {
        if (n < 1 || n > 50) {
            return OUTSIDE;
        }
        int had = flow;
        flow = n;
        return had;
    }

    public int part(int page, int form, int number, int letter) {
        if (page < 0 || page >= MOST_PAGES || !Parts.isForm(form) || number < 1 || number > 999) {
            return OUTSIDE;
        }
        if (form == Parts.LETTER && (letter < 'A' || letter > 'Z')) {
            return OUTSIDE;
        }
        return parts.begin(page, form, number, letter) ? parts.count : FULL;
    }

    public int label(int page) {
        return hasPage(page) ? parts.write(page) : UNKNOWN;
    }

    public int labelSign(int page, int i) {
        if (!hasPage(page)) {
            return UNKNOWN;
        }
        int count = parts.write(page);
        return i >= 0 && i < count ? parts.signs[i] : NONE;
    }

    public int labelled(int form, int number, int letter) {
        if (!Parts.isForm(form)) {
            return OUTSIDE;
        }
        int pages = pageCount();
        for (int page = 0; page < pages; page++) {
            if (parts.isLabelled(page, form, number, letter)) {
                return page;
            }
        }
        return NONE;
    }

    // ---- 2 heads, marks

    public int name(long w, int n) {
        if (n < 1 || n > 8) {
            return OUTSIDE;
        }
        for (int k = 0; k < n; k++) {
            if (byteOf(w, k) < 32 || byteOf(w, k) > 126) {
                return OUTSIDE;
            }
        }
        if (theName.countOf(0) + n > MOST_SIGNS) {
            return FULL;
        }
        for (int k = n - 1; k >= 0; k--) {
            theName.append(0, byteOf(w, k));
        }
        return theName.countOf(0);
    }

    public int unname() {
        int count = theName.countOf(0);
        theName.clear(0);
        return count;
    }

    public int head() {
        if (!isNewHead()) {
            return STATE;
        }
        if (heads.ever >= MOST_HEADS) {
            return FULL;
        }
        acts.save(kept);
        return heads.add(theName);
    }

    public int sortAs(int head) {
        if (!heads.has(head)) {
            return UNKNOWN;
        }
        if (!theName.isTidy(0)) {
            return STATE;
        }
        acts.save(kept);
        heads.sorted.copyRow(head, theName, 0);
        return 1;
    }

    public int pass() {
        if (theName.countOf(0) == 0 || !theName.isOfLetters(0) || keys.isPassed(theName)) {
            return STATE;
        }
        return keys.addPassed(theName) ? keys.passedCount : FULL;
    }

    public int about(int head, int what) {
        if (!heads.has(head)) {
            return UNKNOWN;
        }
        if (what != 0 && what != 1) {
            return OUTSIDE;
        }
        return heads.rows(head, what).countOf(head);
    }

    public int sign(int head, int what, int i) {
        if (!heads.has(head)) {
            return UNKNOWN;
        }
        if (what != 0 && what != 1) {
            return OUTSIDE;
        }
        return heads.rows(head, what).signAt(head, i);
    }

    public int compare(int a, int b, int order) {
        if (!heads.has(a) || !heads.has(b)) {
            return UNKNOWN;
        }
        if (order != 0 && order != 1) {
            return OUTSIDE;
        }
        return keys.orderOf(heads, a, b, order) - 100;
    }

    public int rename(int head) {
        if (!heads.has(head)) {
            return UNKNOWN;
        }
        if (!isNewHead()) {
            return STATE;
        }
        acts.save(kept);
        heads.own.copyRow(head, theName, 0);
        return 1;
    }

    public int meld(int head, int into) {
        if (!heads.has(head) || !heads.has(into)) {
            return UNKNOWN;
        }
        if (head == into || marks.leadBetween(head, into)) {
            return STATE;
        }
        acts.save(kept);
        heads.remove(head);
        return marks.replaceHead(head, into);
    }

    public int mark(int gap, int kind, int a, int b, int c, int note) {
        if (!kept.hasGap(gap) || !hasHeads(a, b, c)) {
            return UNKNOWN;
        }
        if (kind < POINT || kind > PICTURE || kind == NOTE && (note < 1 || note > 99)) {
            return OUTSIDE;
        }
        if (b == NONE && c != NONE) {
            return STATE;
        }
        if (marks.ever >= MOST_MARKS) {
            return FULL;
        }
        acts.save(kept);
        return marks.add(gap, kind, a, b, c, kind == NOTE ? note : 0);
    }

    public int see(int gap, int from, int to, boolean isAlso) {
        if (!kept.hasGap(gap) || !heads.has(from) || !heads.has(to)) {
            return UNKNOWN;
        }
        if (from == to) {
            return STATE;
        }
        if (marks.ever >= MOST_MARKS) {
            return FULL;
        }
        acts.save(kept);
        return marks.add(gap, isAlso ? ALSO : SEE, from, to, NONE, 0);
    }

    public int drop(int mark) {
        if (!marks.has(mark)) {
            return UNKNOWN;
        }
        acts.save(kept);
        marks.remove(mark);
        return 1;
    }

    public int marked(int mark, int what) {
        if (!marks.has(mark)) {
            return UNKNOWN;
        }
        switch (what) {
            case 0:
                return marks.kinds[mark];
            case 1:
                return marks.gaps[mark];
            case 2:
            case 3:
            case 4:
                return marks.headAt(mark, what - 2);
            case 5:
                return marks.notes[mark];
            case 6:
                return pageOfGap(marks.gaps[mark], flow);
            default:
                return OUTSIDE;
        }
    }

    public int tell(int mark) {
        if (!marks.has(mark)) {
            return UNKNOWN;
        }
        switch (marks.kinds[mark]) {
            case MAIN:
                return tellMain();
            case NOTE:
                return tellNote(marks.notes[mark]);
            case SEE:
                return tellSee();
            case ALSO:
                return tellAlso();
            default:
                return tellPoint();
        }
    }

    public int show(int mark) {
        if (!marks.has(mark)) {
            return refused(UNKNOWN);
        }
        if (marks.kinds[mark] > PICTURE) {
            return failed(FAULT_CAST);
        }
        fault = 0;
        return marks.kinds[mark] == MAIN ? showMain(marks.gaps[mark]) : showLent(marks.gaps[mark]);
    }

    // ---- 3 the index

    public int build(int order, int near, int chief) {
        if (order != 0 && order != 1 || near < 0 || near > 20 || chief != 0 && chief != 1) {
            return OUTSIDE;
        }
        Index oldest = former;
        former = index;
        index = oldest;
        maker.fill(index, order, near, chief, flow);
        return index.count;
    }

    public int entry(int e, int what) {
        if (!index.has(e)) {
            return UNKNOWN;
        }
        switch (what) {
            case 0:
            case 1:
            case 2:
                return headOf(index.paths[e], what);
            case 3:
                return index.placesOf(e);
            case 4:
                return index.withinOf(e);
            case 5:
                return index.seesOf(e);
            case 6:
                return headsIn(index.paths[e]);
            default:
                return OUTSIDE;
        }
    }

    public int place(int e, int i, int what) {
        if (!index.has(e) || i < 0 || i >= index.placesOf(e)) {
            return UNKNOWN;
        }
        if (what < 0 || what >= Index.PLACE) {
            return OUTSIDE;
        }
        return index.places[(index.placeStart(e) + i) * Index.PLACE + what];
    }

    public int sees(int e, int i, int what) {
        if (!index.has(e) || i < 0 || i >= index.seesOf(e)) {
            return UNKNOWN;
        }
        if (what < 0 || what >= Index.LEAD) {
            return OUTSIDE;
        }
        return index.leads[(index.leadStart(e) + i) * Index.LEAD + what];
    }

    public int find(int a, int b, int c) {
        if (!hasHeads(a, b, c)) {
            return UNKNOWN;
        }
        if (b == NONE && c != NONE) {
            return STATE;
        }
        return index.entryOf(pathOf(a, b, c));
    }

    public int first() {
        if (theName.countOf(0) == 0) {
            return STATE;
        }
        for (int e = 0; e < index.count; e++) {
            int head = headOf(index.paths[e], 0);
            if (headsIn(index.paths[e]) == 1 && index.signs.beginsAlike(head, theName, 0)) {
                return e;
            }
        }
        return NONE;
    }

    public int unmatched() {
        return index.looseCount;
    }

    public int unmatchedAt(int i) {
        return i >= 0 && i < index.looseCount ? index.loose[i] : UNKNOWN;
    }

    public int led(int what) {
        return what < GOOD || what > ROUND ? OUTSIDE : index.countLed(what);
    }

    public int changed() {
        int count = 0;
        for (int e = 0; e < index.count; e++) {
            int before = former.entryOf(index.paths[e]);
            if (before == NONE || !index.isAlike(e, former, before)) {
                count++;
            }
        }
        for (int e = 0; e < former.count; e++) {
            if (index.entryOf(former.paths[e]) == NONE) {
                count++;
            }
        }
        return count;
    }

    public int shorten(int a, int b, int rule) {
        if (rule < 0 || rule > 2 || a < 1 || a > 999999 || b < a || b > 999999) {
            return OUTSIDE;
        }
        int digits = digitsOf(b);
        if (rule == 0 || digitsOf(a) != digits) {
            return digits;
        }
        return Math.max(unlikeDigits(a, b), Math.min(rule, digits));
    }

    public int unfold(int a, int s, int digits) {
        if (a < 1 || a > 999999 || s < 0 || s > 999999 || digits < 1 || digits > 6 || digitsOf(s) > digits) {
            return OUTSIDE;
        }
        if (s >= a) {
            return s;
        }
        int meant = a - lastDigits(a, digits) + s;
        return meant < a ? STATE : meant;
    }

    // ---- 4 acts, the tray

    public int undo() {
        return acts.restore(kept) ? acts.count : STATE;
    }

    public int tray(int kind, int number) {
        if (kind < A_HEAD || kind > NOTHING) {
            return OUTSIDE;
        }
        boolean isThere = kind == A_HEAD && heads.has(number)
                || kind == A_MARK && marks.has(number)
                || kind == A_PAGE && hasPage(number)
                || kind == NOTHING;
        if (!isThere) {
            return UNKNOWN;
        }
        trayKind = kind;
        trayNumber = number;
        return 1;
    }

    public int taken(int kind) {
        if (kind < A_HEAD || kind > A_PAGE) {
            return refused(OUTSIDE);
        }
        if (trayKind == NOTHING) {
            return failed(FAULT_NULL);
        }
        if (trayKind != kind) {
            return failed(FAULT_CAST);
        }
        fault = 0;
        return trayNumber;
    }

    public int match(int a, int i, int b, int j, int n) {
        if (!heads.has(a) || !heads.has(b)) {
            return refused(UNKNOWN);
        }
        if (n < 0) {
            return failed(FAULT_SIZE);
        }
        if (!isWithin(i, n, heads.own.countOf(a)) || !isWithin(j, n, heads.own.countOf(b))) {
            return failed(FAULT_INDEX);
        }
        fault = 0;
        for (int k = 0; k < n; k++) {
            if (heads.own.signAt(a, i + k) != heads.own.signAt(b, j + k)) {
                return 0;
            }
        }
        return 1;
    }

    public int trace() {
        return trace;
    }

    public int fault() {
        return fault;
    }

    public int told(int what) {
        switch (what) {
            case 0:
                return kept.wordCount;
            case 1:
                return pageCount();
            case 2:
                return parts.count;
            case 3:
                return heads.countThere();
            case 4:
                return marks.countThere();
            case 5:
                return index.count;
            case 6:
                return theName.countOf(0);
            case 7:
                return keys.passedCount;
            case 8:
                return acts.count;
            default:
                return OUTSIDE;
        }
    }

    // ---- refusals, faults, and what is there

    private int refused(int refusal) {
        fault = 0;
        return refusal;
    }

    private int failed(int newFault) {
        fault = newFault;
        return -10 - newFault;
    }

    private int pageCount() {
        return pageOfGap(kept.wordCount, flow) + 1;
    }

    private boolean hasPage(int page) {
        return page >= 0 && page < pageCount();
    }

    private boolean hasHeads(int a, int b, int c) {
        return heads.has(a) && (b == NONE || heads.has(b)) && (c == NONE || heads.has(c));
    }

    private boolean isNewHead() {
        return theName.countOf(0) > 0 && theName.isTidy(0) && !heads.hasSigns(theName);
    }

    // ---- bodies of marks: each leaves its number as it begins

    private void leave(int number) {
        trace = 31 * trace + number;
    }

    private int tellPoint() {
        leave(1);
        return 1;
    }

    private int tellMain() {
        leave(2);
        return 10 * tellPoint();
    }

    private int tellNote(int note) {
        leave(3);
        return tellPoint() + note;
    }

    private int tellSee() {
        leave(4);
        return 5;
    }

    private int tellAlso() {
        leave(5);
        return tellSee() + 1;
    }

    private int showLent(int gap) {
        leave(6);
        return 100 + gap;
    }

    private int showMain(int gap) {
        leave(7);
        return 200 + gap;
    }

    // ---- numbers

    private static boolean isWithin(int from, int n, int count) {
        return from >= 0 && n >= 0 && n <= count && from <= count - n;
    }

    private static int pageOfGap(int gap, int flow) {
        return gap < 1 || flow < 1 ? 0 : (gap - 1) / flow;
    }

    private static int byteOf(long w, int k) {
        return (int) (w >>> (8 * k)) & 255;
    }

    private static int digitsOf(int number) {
        int digits = 1;
        for (int left = number / 10; left > 0; left /= 10) {
            digits++;
        }
        return digits;
    }

    /** The last digits of two numbers, from the first that is not alike in both; 0 of like numbers. */
    private static int unlikeDigits(int a, int b) {
        int digits = 0;
        for (int k = 1; k <= 6; k++) {
            if (a - lastDigits(a, k - 1) != b - lastDigits(b, k - 1)) {
                digits = k;
            }
        }
        return digits;
    }

    private static int lastDigits(int number, int digits) {
        int unit = 1;
        for (int k = 0; k < digits && k < 6; k++) {
            unit *= 10;
        }
        return number % unit;
    }

    // ---- signs

    private static boolean isDigit(int sign) {
        return sign >= '0' && sign <= '9';
    }

    private static boolean isLetter(int sign) {
        return folded(sign) >= 'a' && folded(sign) <= 'z';
    }

    private static int folded(int sign) {
        return sign >= 'A' && sign <= 'Z' ? sign + 'a' - 'A' : sign;
    }

    // ---- paths: numbers of three digits, each a head and one, 0 for no head,
    // ---- so that the number of a path is below those of the paths within it

    private static int pathOf(int a, int b, int c) {
        return longer(longer(longer(0, a), b), c);
    }

    private static int longer(int path, int head) {
        return path * PATH_BASE + (head == NONE ? 0 : head + 1);
    }

    private static int headOf(int path, int k) {
        int unit = k == 0 ? PATH_BASE * PATH_BASE : k == 1 ? PATH_BASE : 1;
        int digit = path / unit % PATH_BASE;
        return digit == 0 ? NONE : digit - 1;
    }

    private static int headsIn(int path) {
        return headOf(path, 2) != NONE ? 3 : headOf(path, 1) != NONE ? 2 : 1;
    }

    /** The path just around a path; 0 around one head. */
    private static int around(int path) {
        int heads = headsIn(path);
        if (heads == 3) {
            return path - path % PATH_BASE;
        }
        return heads == 2 ? path - path % (PATH_BASE * PATH_BASE) : 0;
    }

    /** Rows of signs, 16 at most in each: THE NAME, what heads have, the terms passed. */
    private static final class Rows {
        private final byte[] signs;
        private final int[] counts;

        private Rows(int rows) {
            int length = Math.max(rows, 0);
            signs = new byte[length * MOST_SIGNS];
            counts = new int[length];
        }

        private int countOf(int row) {
            return row >= 0 && row < counts.length ? counts[row] : 0;
        }

        private int signAt(int row, int i) {
            boolean isThere = row >= 0 && row < counts.length && i >= 0 && i < counts[row];
            return isThere ? signs[row * MOST_SIGNS + i] : NONE;
        }

        private void clear(int row) {
            if (row >= 0 && row < counts.length) {
                counts[row] = 0;
            }
        }

        private void append(int row, int sign) {
            if (row >= 0 && row < counts.length && counts[row] < MOST_SIGNS) {
                signs[row * MOST_SIGNS + counts[row]] = (byte) sign;
                counts[row]++;
            }
        }

        private void copyRow(int row, Rows from, int fromRow) {
            clear(row);
            for (int i = 0; i < from.countOf(fromRow); i++) {
                append(row, from.signAt(fromRow, i));
            }
        }

        private void copyAll(Rows from) {
            System.arraycopy(from.signs, 0, signs, 0, Math.min(from.signs.length, signs.length));
            System.arraycopy(from.counts, 0, counts, 0, Math.min(from.counts.length, counts.length));
        }

        private int firstBlank(int row) {
            for (int i = 0; i < countOf(row); i++) {
                if (signAt(row, i) == ' ') {
                    return i;
                }
            }
            return NONE;
        }

        /** No blank at either end, none behind another. */
        private boolean isTidy(int row) {
            int count = countOf(row);
            for (int i = 0; i < count; i++) {
                boolean isAtEnd = i == 0 || i == count - 1;
                if (signAt(row, i) == ' ' && (isAtEnd || signAt(row, i - 1) == ' ')) {
                    return false;
                }
            }
            return true;
        }

        private boolean isOfLetters(int row) {
            for (int i = 0; i < countOf(row); i++) {
                if (!isLetter(signAt(row, i))) {
                    return false;
                }
            }
            return true;
        }

        /** By bytes; NONE, where a row ends, is below all of them. */
        private int byBytes(int row, Rows other, int otherRow) {
            for (int i = 0; i < MOST_SIGNS; i++) {
                int parted = Integer.compare(signAt(row, i), other.signAt(otherRow, i));
                if (parted != 0) {
                    return parted;
                }
            }
            return 0;
        }

        private boolean beginsAlike(int row, Rows start, int startRow) {
            for (int i = 0; i < start.countOf(startRow); i++) {
                if (folded(signAt(row, i)) != folded(start.signAt(startRow, i))) {
                    return false;
                }
            }
            return true;
        }
    }

    /** Heads with their own signs and, if told, others by which they are sorted. */
    private static final class Heads {
        private final Rows own = new Rows(MOST_HEADS);
        private final Rows sorted = new Rows(MOST_HEADS);
        private final boolean[] gone = new boolean[MOST_HEADS];
        private int ever = 0;

        private boolean has(int head) {
            return head >= 0 && head < ever && !gone[head];
        }

        private int countThere() {
            int count = 0;
            for (int h = 0; h < ever; h++) {
                if (!gone[h]) {
                    count++;
                }
            }
            return count;
        }

        private boolean hasSigns(Rows name) {
            for (int h = 0; h < ever; h++) {
                if (!gone[h] && own.byBytes(h, name, 0) == 0) {
                    return true;
                }
            }
            return false;
        }

        private int add(Rows name) {
            if (ever >= MOST_HEADS) {
                return FULL;
            }
            own.copyRow(ever, name, 0);
            sorted.clear(ever);
            gone[ever] = false;
            ever++;
            return ever - 1;
        }

        private void remove(int head) {
            if (has(head)) {
                gone[head] = true;
            }
        }

        /** The rows that hold what a head has (what 0) or is sorted by (1). */
        private Rows rows(int head, int what) {
            return what == 1 && sorted.countOf(head) > 0 ? sorted : own;
        }

        private void copyFrom(Heads from) {
            own.copyAll(from.own);
            sorted.copyAll(from.sorted);
            for (int h = 0; h < MOST_HEADS; h++) {
                gone[h] = from.gone[h];
            }
            ever = from.ever;
        }
    }

    /** Marks at gaps; three heads to each, NONE where there is no more. */
    private static final class Marks {
        private final int[] kinds = new int[MOST_MARKS];
        private final int[] gaps = new int[MOST_MARKS];
        private final int[] paths = new int[MOST_MARKS];
        private final int[] notes = new int[MOST_MARKS];
        private final boolean[] gone = new boolean[MOST_MARKS];
        private int ever = 0;

        private boolean has(int mark) {
            return mark >= 0 && mark < ever && !gone[mark];
        }

        private int countThere() {
            int count = 0;
            for (int m = 0; m < ever; m++) {
                if (!gone[m]) {
                    count++;
                }
            }
            return count;
        }

        private int add(int gap, int kind, int a, int b, int c, int note) {
            if (ever >= MOST_MARKS) {
                return FULL;
            }
            gaps[ever] = gap;
            kinds[ever] = kind;
            paths[ever] = pathOf(a, b, c);
            notes[ever] = note;
            gone[ever] = false;
            ever++;
            return ever - 1;
        }

        private void remove(int mark) {
            if (has(mark)) {
                gone[mark] = true;
            }
        }

        private int headAt(int mark, int k) {
            return has(mark) ? headOf(paths[mark], k) : NONE;
        }

        private boolean isLead(int mark) {
            return has(mark) && kinds[mark] > PICTURE;
        }

        /** The path of the entry that a mark makes: of a see or also the head from which it leads. */
        private int entryPath(int mark) {
            return isLead(mark) ? pathOf(headAt(mark, 0), NONE, NONE) : has(mark) ? paths[mark] : 0;
        }

        private boolean leadBetween(int a, int b) {
            for (int m = 0; m < ever; m++) {
                int from = headAt(m, 0);
                int to = headAt(m, 1);
                if (isLead(m) && (from == a && to == b || from == b && to == a)) {
                    return true;
                }
            }
            return false;
        }

        private int replaceHead(int head, int into) {
            int count = 0;
            for (int m = 0; m < ever; m++) {
                int path = 0;
                for (int k = 0; k < 3 && !gone[m]; k++) {
                    int had = headAt(m, k);
                    path = longer(path, had == head ? into : had);
                }
                if (!gone[m] && path != paths[m]) {
                    paths[m] = path;
                    count++;
                }
            }
            return count;
        }

        private void shiftBehind(int gap, int by) {
            for (int m = 0; m < ever; m++) {
                if (gaps[m] > gap) {
                    gaps[m] += by;
                }
            }
        }

        /** Each mark goes with the word that it lies just behind. */
        private void shiftWithWords(int i, int n, int j) {
            for (int m = 0; m < ever; m++) {
                int gap = gaps[m];
                if (gap > i && gap <= i + n) {
                    gaps[m] = gap - i + j;
                } else {
                    int left = gap > i ? gap - n : gap;
                    gaps[m] = left > j ? left + n : left;
                }
            }
        }

        private void copyFrom(Marks from) {
            System.arraycopy(from.kinds, 0, kinds, 0, MOST_MARKS);
            System.arraycopy(from.gaps, 0, gaps, 0, MOST_MARKS);
            System.arraycopy(from.paths, 0, paths, 0, MOST_MARKS);
            System.arraycopy(from.notes, 0, notes, 0, MOST_MARKS);
            for (int m = 0; m < MOST_MARKS; m++) {
                gone[m] = from.gone[m];
            }
            ever = from.ever;
        }
    }

    /** What acts change and undo() brings back: words, heads, marks. */
    private static final class Kept {
        private final int[] words = new int[MOST_WORDS];
        private int wordCount = 0;
        private final Heads heads = new Heads();
        private final Marks marks = new Marks();

        private boolean hasWord(int i) {
            return i >= 0 && i < wordCount;
        }

        private boolean hasGap(int gap) {
            return gap >= 0 && gap <= wordCount;
        }

        private void insertWord(int i, int w) {
            if (!hasGap(i) || wordCount >= MOST_WORDS) {
                return;
            }
            System.arraycopy(words, i, words, i + 1, wordCount - i);
            words[i] = w;
            wordCount++;
            marks.shiftBehind(i, 1);
        }

        private int removeWord(int i) {
            if (!hasWord(i)) {
                return UNKNOWN;
            }
            int word = words[i];
            System.arraycopy(words, i + 1, words, i, wordCount - i - 1);
            wordCount--;
            marks.shiftBehind(i, -1);
            return word;
        }

        private void shiftWords(int i, int n, int j) {
            if (j < i) {
                swapParts(j, i, i + n);
            } else {
                swapParts(i, i + n, j + n);
            }
            marks.shiftWithWords(i, n, j);
        }

        /** The words ahead of the middle and those behind it change places: three turns need no row beside. */
        private void swapParts(int from, int middle, int end) {
            turn(from, middle);
            turn(middle, end);
            turn(from, end);
        }

        private void turn(int from, int end) {
            if (from < 0 || end > wordCount) {
                return;
            }
            for (int a = from, b = end - 1; a < b; a++, b--) {
                int word = words[a];
                words[a] = words[b];
                words[b] = word;
            }
        }

        private void copyFrom(Kept from) {
            System.arraycopy(from.words, 0, words, 0, from.wordCount);
            wordCount = from.wordCount;
            heads.copyFrom(from.heads);
            marks.copyFrom(from.marks);
        }
    }

    /** What was kept ahead of each of the latest acts, in a ring whose places are made once and used again. */
    private static final class Acts {
        private final Kept[] ring = new Kept[MOST_ACTS];
        private int next = 0;
        private int count = 0;

        private void save(Kept now) {
            Kept saved = ring[next];
            if (saved == null) {
                saved = new Kept();
                ring[next] = saved;
            }
            saved.copyFrom(now);
            next = (next + 1) % MOST_ACTS;
            count = Math.min(count + 1, MOST_ACTS);
        }

        private boolean restore(Kept now) {
            int latest = (next + MOST_ACTS - 1) % MOST_ACTS;
            Kept saved = ring[latest];
            if (count == 0 || saved == null) {
                return false;
            }
            now.copyFrom(saved);
            next = latest;
            count--;
            return true;
        }
    }

    /** The parts by which pages have labels. */
    private static final class Parts {
        private static final int ROMAN = 0, WHOLE = 1, LETTER = 2;
        private static final int[] ROMAN_VALUES = {1000, 900, 500, 400, 100, 90, 50, 40, 10, 9, 5, 4, 1};
        private static final char[] ROMAN_LETTERS = {'m', 'm', 'd', 'd', 'c', 'c', 'l', 'l', 'x', 'x', 'v', 'v', 'i'};
        private static final char[] ROMAN_AHEAD = {' ', 'c', ' ', 'c', ' ', 'x', ' ', 'x', ' ', 'i', ' ', 'i', ' '};

        private final int[] pages = new int[MOST_PARTS];
        private final int[] forms = new int[MOST_PARTS];
        private final int[] numbers = new int[MOST_PARTS];
        private final int[] letters = new int[MOST_PARTS];
        private int count = 0;
        private final int[] signs = new int[MOST_SIGNS];
        private int signCount = 0;

        private static boolean isForm(int form) {
            return form >= ROMAN && form <= LETTER;
        }

        private boolean begin(int page, int form, int number, int letter) {
            int p = partOf(page);
            if (p == NONE || pages[p] != page) {
                p = count;
            }
            if (p >= MOST_PARTS) {
                return false;
            }
            pages[p] = page;
            forms[p] = form;
            numbers[p] = number;
            letters[p] = letter;
            count = Math.max(count, p + 1);
            return true;
        }

        private int partOf(int page) {
            int part = NONE;
            for (int p = 0; p < count; p++) {
                if (pages[p] <= page && (part == NONE || pages[p] > pages[part])) {
                    part = p;
                }
            }
            return part;
        }

        private int formOf(int part) {
            return part == NONE ? WHOLE : forms[part];
        }

        private int numberOf(int part, int page) {
            return part == NONE ? page + 1 : numbers[part] + page - pages[part];
        }

        private boolean isLabelled(int page, int form, int number, int letter) {
            int part = partOf(page);
            return formOf(part) == form && numberOf(part, page) == number
                    && (part == NONE || form != LETTER || letters[part] == letter);
        }

        /** Writes a page's label into signs: how many there are. */
        private int write(int page) {
            int part = partOf(page);
            int number = numberOf(part, page);
            signCount = 0;
            if (formOf(part) == ROMAN) {
                writeRoman(number);
                return signCount;
            }
            if (part != NONE && formOf(part) == LETTER) {
                append(letters[part]);
                append('-');
            }
            writeWhole(number);
            return signCount;
        }

        private void writeRoman(int number) {
            int left = number;
            for (int k = 0; k < ROMAN_VALUES.length; k++) {
                for (; left >= ROMAN_VALUES[k]; left -= ROMAN_VALUES[k]) {
                    if (ROMAN_AHEAD[k] != ' ') {
                        append(ROMAN_AHEAD[k]);
                    }
                    append(ROMAN_LETTERS[k]);
                }
            }
        }

        private void writeWhole(int number) {
            for (int unit = 1000; unit > 0; unit /= 10) {
                if (number >= unit) {
                    append('0' + number / unit % 10);
                }
            }
        }

        private void append(int sign) {
            if (signCount < MOST_SIGNS) {
                signs[signCount] = sign;
                signCount++;
            }
        }
    }

    /** Goes through the signs of a key bit by bit. */
    private static final class Bits {
        private static final int END = 0, BLANK = 1, SIGN = 2, NUMBER = 3, LETTER = 4;

        private int at = 0;
        private int kind = END;
        private long value = 0;

        private void begin(int from) {
            at = from;
            kind = END;
            value = 0;
        }

        private void step(Rows rows, int row, boolean isByLetters) {
            while (isByLetters && at < MOST_SIGNS && rows.signAt(row, at) == ' ') {
                at++;
            }
            int sign = rows.signAt(row, at);
            if (isDigit(sign)) {
                readNumber(rows, row);
                return;
            }
            kind = sign == NONE ? END : sign == ' ' ? BLANK : isLetter(sign) ? LETTER : SIGN;
            value = folded(sign);
            at++;
        }

        /** 16 digits at most, so a long holds the number. */
        private void readNumber(Rows rows, int row) {
            kind = NUMBER;
            value = 0;
            while (at < MOST_SIGNS && isDigit(rows.signAt(row, at))) {
                value = value * 10 + rows.signAt(row, at) - '0';
                at++;
            }
        }
    }

    /** The order of heads by their keys, and the terms passed, which keys leave out. */
    private static final class Keys {
        private final Rows passed = new Rows(MOST_PASSED);
        private int passedCount = 0;
        private final Bits left = new Bits();
        private final Bits right = new Bits();

        private boolean isPassed(Rows name) {
            for (int p = 0; p < passedCount; p++) {
                if (passed.countOf(p) == name.countOf(0) && passed.beginsAlike(p, name, 0)) {
                    return true;
                }
            }
            return false;
        }

        private boolean addPassed(Rows name) {
            if (passedCount >= MOST_PASSED) {
                return false;
            }
            passed.copyRow(passedCount, name, 0);
            passedCount++;
            return true;
        }

        private int orderOf(Heads heads, int a, int b, int order) {
            Rows rowsA = heads.rows(a, 1);
            Rows rowsB = heads.rows(b, 1);
            left.begin(keyStart(rowsA, a));
            right.begin(keyStart(rowsB, b));
            for (int k = 0; k <= MOST_SIGNS; k++) {
                left.step(rowsA, a, order == 0);
                right.step(rowsB, b, order == 0);
                if (left.kind != right.kind) {
                    return Integer.compare(left.kind, right.kind);
                }
                if (left.value != right.value) {
                    return Long.compare(left.value, right.value);
                }
                if (left.kind == Bits.END) {
                    break;
                }
            }
            return heads.own.byBytes(a, heads.own, b);
        }

        private int keyStart(Rows rows, int row) {
            int blank = rows.firstBlank(row);
            for (int p = 0; p < passedCount; p++) {
                if (passed.countOf(p) == blank && rows.beginsAlike(row, passed, p)) {
                    return blank + 1;
                }
            }
            return 0;
        }
    }

    /** An index as it was built: entries in order, their places and leads (sees, alsos) one entry's behind another's. */
    private static final class Index {
        private static final int PLACE = 4, LEAD = 3;
        private static final int[] PLACE_RANKS = {1, 1, 1, 0, 3, 2};

        private int count = 0;
        private final int[] paths = new int[MOST_ENTRIES];
        private final int[] placeEnds = new int[MOST_ENTRIES];
        private final int[] leadEnds = new int[MOST_ENTRIES];
        private final int[] places = new int[MOST_MARKS * PLACE];
        private int placeCount = 0;
        private final int[] leads = new int[MOST_MARKS * LEAD];
        private int leadCount = 0;
        private final int[] loose = new int[MOST_MARKS];
        private int looseCount = 0;
        private final Rows signs = new Rows(MOST_HEADS);

        private void clear() {
            count = 0;
            placeCount = 0;
            leadCount = 0;
            looseCount = 0;
        }

        private boolean has(int e) {
            return e >= 0 && e < count;
        }

        private int placeStart(int e) {
            return e > 0 && e < MOST_ENTRIES ? placeEnds[e - 1] : 0;
        }

        private int leadStart(int e) {
            return e > 0 && e < MOST_ENTRIES ? leadEnds[e - 1] : 0;
        }

        private int placesOf(int e) {
            return has(e) ? placeEnds[e] - placeStart(e) : 0;
        }

        private int seesOf(int e) {
            return has(e) ? leadEnds[e] - leadStart(e) : 0;
        }

        private int withinOf(int e) {
            int within = 0;
            for (int k = e + 1; has(e) && k < count; k++) {
                if (around(paths[k]) == paths[e]) {
                    within++;
                }
            }
            return within;
        }

        /** It has places or entries within it; the first of these comes just behind it. */
        private boolean hasBody(int e) {
            return placesOf(e) > 0 || has(e) && has(e + 1) && around(paths[e + 1]) == paths[e];
        }

        private int entryOf(int path) {
            for (int e = 0; e < count; e++) {
                if (paths[e] == path) {
                    return e;
                }
            }
            return NONE;
        }

        private void addPath(int path) {
            int at = count;
            for (; at > 0 && paths[at - 1] >= path; at--) {
                if (paths[at - 1] == path) {
                    return;
                }
            }
            if (path <= 0 || count >= MOST_ENTRIES) {
                return;
            }
            System.arraycopy(paths, at, paths, at + 1, count - at);
            paths[at] = path;
            count++;
        }

        /** Adds a place, in its order, behind those from start on, if it is not there yet. */
        private void addPlace(int start, int kind, int firstPage, int lastPage, int note, int chief) {
            if (placeCount >= MOST_MARKS || start < 0) {
                return;
            }
            int weight = weightOf(kind, firstPage, note, chief);
            int at = placeCount;
            for (; at > start && weightAt(at - 1, chief) >= weight; at--) {
                if (weightAt(at - 1, chief) == weight) {
                    return;
                }
            }
            int k = at * PLACE;
            System.arraycopy(places, k, places, k + PLACE, (placeCount - at) * PLACE);
            places[k] = kind;
            places[k + 1] = firstPage;
            places[k + 2] = lastPage;
            places[k + 3] = note;
            placeCount++;
        }

        private int weightAt(int k, int chief) {
            return weightOf(places[k * PLACE], places[k * PLACE + 1], places[k * PLACE + 3], chief);
        }

        private static int weightOf(int kind, int firstPage, int note, int chief) {
            int lead = chief == 1 && kind != MAIN ? 1 : 0;
            int rank = kind >= 0 && kind < PLACE_RANKS.length ? PLACE_RANKS[kind] : 0;
            return ((lead * MOST_PAGES + firstPage) * 4 + rank) * 100 + note;
        }

        private void addLead(int to, int also) {
            if (leadCount >= MOST_MARKS) {
                return;
            }
            leads[leadCount * LEAD] = to;
            leads[leadCount * LEAD + 1] = also;
            leadCount++;
        }

        private void addLoose(int mark) {
            if (looseCount < MOST_MARKS) {
                loose[looseCount] = mark;
                looseCount++;
            }
        }

        /** Where a see to a head leads; one that goes on for longer than there are entries comes to one once more. */
        private int ledFrom(int head) {
            int to = head;
            for (int steps = 0; steps <= count; steps++) {
                int e = entryOf(pathOf(to, NONE, NONE));
                if (e == NONE) {
                    return LOST;
                }
                if (hasBody(e)) {
                    return GOOD;
                }
                if (seesOf(e) > 0) {
                    to = leads[leadStart(e) * LEAD];
                }
            }
            return ROUND;
        }

        private void follow() {
            for (int k = 0; k < leadCount; k++) {
                leads[k * LEAD + 2] = ledFrom(leads[k * LEAD]);
            }
        }

        private int countLed(int what) {
            int led = 0;
            for (int k = 0; k < leadCount; k++) {
                if (leads[k * LEAD + 2] == what) {
                    led++;
                }
            }
            return led;
        }

        private boolean isAlike(int e, Index other, int o) {
            if (placesOf(e) != other.placesOf(o) || seesOf(e) != other.seesOf(o)) {
                return false;
            }
            int from = placeStart(e) * PLACE;
            int otherFrom = other.placeStart(o) * PLACE;
            for (int k = 0; k < placesOf(e) * PLACE; k++) {
                if (places[from + k] != other.places[otherFrom + k]) {
                    return false;
                }
            }
            return hasLikeLeads(e, other, o);
        }

        private boolean hasLikeLeads(int e, Index other, int o) {
            for (int k = 0; k < seesOf(e); k++) {
                int a = (leadStart(e) + k) * LEAD;
                int b = (other.leadStart(o) + k) * LEAD;
                if (leads[a] != other.leads[b] || leads[a + 1] != other.leads[b + 1]) {
                    return false;
                }
            }
            return true;
        }
    }

    /** Runs of pages of one entry, by their first pages, of like ones the longest first. */
    private static final class Runs {
        private final int[] firsts = new int[MOST_MARKS];
        private final int[] lasts = new int[MOST_MARKS];
        private int count = 0;

        private void add(int firstPage, int lastPage) {
            if (count >= MOST_MARKS) {
                return;
            }
            int at = count;
            for (; at > 0 && isAhead(firstPage, lastPage, at - 1); at--) {
                firsts[at] = firsts[at - 1];
                lasts[at] = lasts[at - 1];
            }
            firsts[at] = firstPage;
            lasts[at] = lastPage;
            count++;
        }

        private boolean isAhead(int firstPage, int lastPage, int k) {
            return firstPage < firsts[k] || firstPage == firsts[k] && lastPage > lasts[k];
        }

        /** A run that lies within another one, or is like it, has that one ahead of it. */
        private void leaveOutInner() {
            int left = 0;
            int last = -1;
            for (int k = 0; k < count; k++) {
                if (lasts[k] > last) {
                    last = lasts[k];
                    keep(k, left);
                    left++;
                }
            }
            count = left;
        }

        private void leaveOutPage(int page) {
            int left = 0;
            for (int k = 0; k < count; k++) {
                if (firsts[k] != page || lasts[k] != page) {
                    keep(k, left);
                    left++;
                }
            }
            count = left;
        }

        private void melt(int near) {
            int left = 0;
            for (int k = 0; k < count; k++) {
                if (near > 0 && left > 0 && firsts[k] - lasts[left - 1] <= near) {
                    lasts[left - 1] = Math.max(lasts[left - 1], lasts[k]);
                } else {
                    keep(k, left);
                    left++;
                }
            }
            count = left;
        }

        private void keep(int k, int at) {
            firsts[at] = firsts[k];
            lasts[at] = lasts[k];
        }
    }

    /** Makes an index of what is kept. */
    private static final class Maker {
        private final Kept kept;
        private final Keys keys;
        private final int[] ranks = new int[MOST_HEADS];
        private final int[] byRank = new int[MOST_HEADS];
        private int ranked = 0;
        private final int[] byGap = new int[MOST_MARKS];
        private int listed = 0;
        private final boolean[] isLoose = new boolean[MOST_MARKS];
        private final int[] ledBy = new int[MOST_HEADS];
        private final Runs runs = new Runs();
        private int open = NONE;
        private int near = 0;
        private int chief = 0;
        private int flow = 1;

        private Maker(Kept kept, Keys keys) {
            this.kept = kept;
            this.keys = keys;
        }

        private void fill(Index index, int order, int newNear, int newChief, int newFlow) {
            near = newNear;
            chief = newChief;
            flow = newFlow;
            rankHeads(order);
            listMarks();
            index.clear();
            index.signs.copyAll(kept.heads.own);
            copySorted(index.signs);
            addEntries(index);
            for (int e = 0; e < index.count; e++) {
                addPlaces(index, e);
            }
            for (int e = 0; e < index.count; e++) {
                addLeads(index, e);
            }
            index.follow();
            for (int m = 0; m < MOST_MARKS; m++) {
                if (isLoose[m]) {
                    index.addLoose(m);
                }
            }
        }

        private void rankHeads(int order) {
            ranked = 0;
            for (int h = 0; h < kept.heads.ever; h++) {
                if (!kept.heads.has(h)) {
                    continue;
                }
                int at = ranked;
                for (; at > 0 && keys.orderOf(kept.heads, h, byRank[at - 1], order) < 0; at--) {
                    byRank[at] = byRank[at - 1];
                }
                byRank[at] = h;
                ranked++;
            }
            for (int r = 0; r < ranked; r++) {
                ranks[byRank[r]] = r;
            }
        }

        /** By gaps, then numbers; no mark is loose as yet. */
        private void listMarks() {
            listed = 0;
            for (int m = 0; m < MOST_MARKS; m++) {
                isLoose[m] = false;
                if (!kept.marks.has(m)) {
                    continue;
                }
                int at = listed;
                for (; at > 0 && kept.marks.gaps[byGap[at - 1]] > kept.marks.gaps[m]; at--) {
                    byGap[at] = byGap[at - 1];
                }
                byGap[at] = m;
                listed++;
            }
        }

        private void copySorted(Rows signs) {
            for (int h = 0; h < kept.heads.ever; h++) {
                if (kept.heads.sorted.countOf(h) > 0) {
                    signs.copyRow(h, kept.heads.sorted, h);
                }
            }
        }

        /** Paths of ranks are in the order of their entries; each becomes one of heads when all are there. */
        private void addEntries(Index index) {
            for (int k = 0; k < listed; k++) {
                int path = translated(kept.marks.entryPath(byGap[k]), ranks);
                index.addPath(path);
                index.addPath(around(path));
                index.addPath(around(around(path)));
            }
            for (int e = 0; e < index.count; e++) {
                index.paths[e] = translated(index.paths[e], byRank);
            }
        }

        private static int translated(int path, int[] table) {
            int made = 0;
            for (int k = 0; k < 3; k++) {
                int digit = headOf(path, k);
                made = longer(made, digit < 0 || digit >= table.length ? NONE : table[digit]);
            }
            return made;
        }

        private void addPlaces(Index index, int e) {
            int start = index.placeCount;
            runs.count = 0;
            open = NONE;
            for (int k = 0; k < listed; k++) {
                int m = byGap[k];
                if (!kept.marks.isLead(m) && kept.marks.paths[m] == index.paths[e]) {
                    collect(index, start, m);
                }
            }
            if (open != NONE) {
                standAlone(open);
            }
            runs.leaveOutInner();
            for (int k = start; k < index.placeCount; k++) {
                if (index.places[k * Index.PLACE] == MAIN) {
                    runs.leaveOutPage(index.places[k * Index.PLACE + 1]);
                }
            }
            runs.melt(near);
            for (int k = 0; k < runs.count; k++) {
                index.addPlace(start, POINT, runs.firsts[k], runs.lasts[k], 0, chief);
            }
            index.placeEnds[e] = index.placeCount;
        }

        private void collect(Index index, int start, int m) {
            int page = pageOf(m);
            switch (kept.marks.kinds[m]) {
                case POINT:
                    runs.add(page, page);
                    break;
                case OPEN:
                    if (open != NONE) {
                        standAlone(open);
                    }
                    open = m;
                    break;
                case CLOSE:
                    close(m);
                    break;
                default:
                    index.addPlace(start, kept.marks.kinds[m], page, page, kept.marks.notes[m], chief);
                    break;
            }
        }

        private void close(int m) {
            if (open == NONE) {
                standAlone(m);
            } else {
                runs.add(pageOf(open), pageOf(m));
                open = NONE;
            }
        }

        /** An OPEN or CLOSE of no run is told of, and stands as a POINT. */
        private void standAlone(int m) {
            isLoose[m] = true;
            runs.add(pageOf(m), pageOf(m));
        }

        private int pageOf(int m) {
            return pageOfGap(kept.marks.gaps[m], flow);
        }

        private void addLeads(Index index, int e) {
            if (headsIn(index.paths[e]) == 1) {
                findLeads(headOf(index.paths[e], 0));
                addLeadsBy(SEE, index, index.hasBody(e) ? 1 : 0);
                addLeadsBy(ALSO, index, 1);
            }
            index.leadEnds[e] = index.leadCount;
        }

        /** To which heads a SEE or else an ALSO leads from a head. */
        private void findLeads(int from) {
            for (int h = 0; h < MOST_HEADS; h++) {
                ledBy[h] = NONE;
            }
            for (int k = 0; k < listed; k++) {
                int m = byGap[k];
                int to = kept.marks.headAt(m, 1);
                if (kept.marks.isLead(m) && kept.marks.headAt(m, 0) == from && kept.heads.has(to) && ledBy[to] != SEE) {
                    ledBy[to] = kept.marks.kinds[m];
                }
            }
        }

        private void addLeadsBy(int kind, Index index, int also) {
            for (int r = 0; r < ranked; r++) {
                if (ledBy[byRank[r]] == kind) {
                    index.addLead(byRank[r], also);
                }
            }
        }
    }
}
