/**
 * A recorder of acts on pages that are trees. The document shared/DOC.md says, promise by promise,
 * what each call answers; words in capitals in the comments here are the document's terms.
 */
public final class ClickBench {
    public static final int NONE = -1;

    private static final int MOST_BYTES = 1600;
    private static final int FED_BYTES = 20;
    private static final int MOST_SHELVES = 4;
    private static final int MOST_PARTS = 60;
    private static final int MOST_ABOVE = 11;
    private static final int MOST_GAP = 100;
    private static final int MOST_SAMPLES = 6;
    private static final int MOST_ACTS = 20;
    private static final int MOST_KEPT = 40;
    private static final int MOST_LIKENESSES = 8;
    private static final int ABOUT_SHELVES = 10;

    private static final int MARK_NAME = 1;
    private static final int MARK_TEXT = 2;
    private static final int MARK_KIND = 4;
    private static final int MARK_TURN = 8;
    private static final int MARK_PARENT_KIND = 16;
    private static final int MARK_PARENT_NAME = 32;
    private static final int MARK_LABEL = 64;
    private static final int MARK_PATH = 128;
    private static final int ALL_MARKS = 255;

    private static final int FOUND = 1;
    private static final int DOUBTFUL = 0;
    private static final int MISSING = -2;

    private static final int NO_SHELF = -2;
    private static final int SEVERAL_SEEN = -2;
    private static final int NOTHING_SEEN = -3;

    private final Tape tape = new Tape();
    private final Reader reader = new Reader(tape);
    private final Page[] shelves = new Page[MOST_SHELVES];
    private final Likeness[] likenesses = new Likeness[MOST_LIKENESSES];
    private final int[] forests = new int[Likeness.WIDTH * Likeness.WIDTH];
    private final Finding latestFind = new Finding();
    private final Finding findingOfRun = new Finding();
    private final Samples samples = new Samples();
    private final Act[] acts = new Act[MOST_ACTS];
    private final Run latestRun = new Run();
    private int actCount = 0;
    private int oldestLikeness = 0;
    private int leastGap = 1;

    public ClickBench() {
    }

    public int feed(int a, int b, int c, int d, int e) {
        if (tape.length > MOST_BYTES - FED_BYTES) {
            return NONE;
        }
        tape.append(a);
        tape.append(b);
        tape.append(c);
        tape.append(d);
        tape.append(e);
        return tape.length;
    }

    public int end(int n) {
        if (n < 0 || n > tape.length) {
            return NONE;
        }
        tape.length = n;
        return n;
    }

    public int page(int shelf) {
        if (shelf < 0 || shelf >= MOST_SHELVES) {
            return NO_SHELF;
        }
        Page fresh = reader.readPage();
        tape.length = 0;
        if (fresh == null) {
            return NONE;
        }
        shelves[shelf] = fresh;
        return fresh.count;
    }

    public int fault(int what) {
        switch (what) {
            case 0:
                return reader.faultKind;
            case 1:
                return reader.faultPlace;
            default:
                return NONE;
        }
    }

    public int part(int shelf, int part, int what) {
        Part one = partOn(shelf, part);
        if (one == null) {
            return NONE;
        }
        switch (what) {
            case 0:
                return numberOf(one.parent);
            case 1:
                return numberOf(one.left);
            case 2:
                return numberOf(one.right);
            case 3:
                return one.turn;
            case 4:
                return numberOf(one.label);
            case 5:
                return one.above;
            case 6:
                return one.harm ? 1 : 0;
            case 7:
                return one.textLength;
            case 8:
                return one.clicks;
            case 9:
                return one.under;
            default:
                return NONE;
        }
    }

    public int text(int shelf, int part, int what, int k) {
        Part one = partOn(shelf, part);
        if (one == null) {
            return NONE;
        }
        switch (what) {
            case 0:
                return letterOf(one.kind, k);
            case 1:
                return letterOf(one.name, k);
            case 2:
                return one.textByte(k);
            default:
                return NONE;
        }
    }

    public int far(int shelf, int part, int other, int otherPart) {
        Part a = partOn(shelf, part);
        Part b = partOn(other, otherPart);
        if (a == null || b == null) {
            return NONE;
        }
        return likenessFor(a, b.page).farOf(a, b);
    }

    public int cost(int shelf, int part, int other, int otherPart) {
        Part a = partOn(shelf, part);
        Part b = partOn(other, otherPart);
        if (a == null || b == null) {
            return NONE;
        }
        return likenessFor(a, b.page).costOf(a, b);
    }

    public boolean gap(int gap) {
        if (gap < 0 || gap > MOST_GAP) {
            return false;
        }
        leastGap = gap;
        return true;
    }

    public int find(int shelf, int part, int other) {
        Part one = partOn(shelf, part);
        Page page = pageOn(other);
        if (one == null || page == null) {
            return NONE;
        }
        return latestFind.look(one, page, likenessFor(one, page), leastGap);
    }

    public int found(int what) {
        switch (what) {
            case 0:
                return numberOf(latestFind.best);
            case 1:
                return numberOf(latestFind.next);
            case 2:
                return latestFind.bestCost;
            case 3:
                return latestFind.nextCost;
            default:
                return NONE;
        }
    }

    public int fits(int shelf, int part, int marks, int other) {
        Part one = partOn(shelf, part);
        Page page = pageOn(other);
        if (one == null || page == null || !areMarks(marks)) {
            return NONE;
        }
        return page.countFitting(one, marks);
    }

    public int fit(int shelf, int part, int marks, int other, int k) {
        Part one = partOn(shelf, part);
        Page page = pageOn(other);
        if (one == null || page == null || !areMarks(marks)) {
            return NONE;
        }
        return numberOf(page.fitting(one, marks, k));
    }

    public int sample(int shelf, int part) {
        Part one = partOn(shelf, part);
        if (one == null || samples.count >= MOST_SAMPLES) {
            return NONE;
        }
        samples.add(one);
        return samples.count;
    }

    public int forget() {
        int before = samples.count;
        samples.dropAll();
        return before;
    }

    public int stays() {
        return samples.steadyMarks;
    }

    public int learnt() {
        return samples.leastMarks();
    }

    public int seen(int shelf) {
        Page page = pageOn(shelf);
        Part first = samples.first();
        int marks = samples.leastMarks();
        if (page == null || first == null || marks == NONE) {
            return NONE;
        }
        int count = page.countFitting(first, marks);
        if (count == 0) {
            return NOTHING_SEEN;
        }
        return count > 1 ? SEVERAL_SEEN : numberOf(page.fitting(first, marks, 0));
    }

    public int rows(int shelf, int a, int b, int other) {
        Loop shown = loopOn(shelf, a, b);
        Page page = pageOn(other);
        if (shown == null || page == null) {
            return NONE;
        }
        return shown.countRows(page);
    }

    public int row(int shelf, int a, int b, int other, int k) {
        Loop shown = loopOn(shelf, a, b);
        Page page = pageOn(other);
        if (shown == null || page == null) {
            return NONE;
        }
        return numberOf(shown.rowOn(page, k));
    }

    public int act(boolean click, int shelf, int part) {
        Part one = partOn(shelf, part);
        return one == null ? NONE : tell(click, one, null);
    }

    public int loop(boolean click, int shelf, int a, int b) {
        Loop shown = loopOn(shelf, a, b);
        return shown == null ? NONE : tell(click, shown.shown, shown);
    }

    public int clear() {
        int before = actCount;
        actCount = 0;
        return before;
    }

    public int run(int shelf) {
        Page page = pageOn(shelf);
        if (page == null) {
            return NONE;
        }
        latestRun.begin();
        int done = 0;
        while (done < actCount && perform(acts[done], page)) {
            done++;
        }
        return done;
    }

    public int ran(int what) {
        if (latestRun.serial == 0) {
            return NONE;
        }
        switch (what) {
            case 0:
                return latestRun.reason;
            case 1:
                return numberOf(latestRun.stoppedAt);
            case 2:
                return latestRun.clicks;
            case 3:
                return latestRun.reads;
            default:
                return NONE;
        }
    }

    public int read(int j, int k) {
        Part one = latestRun.keptAt(j);
        return one == null ? NONE : one.textByte(k);
    }

    public int about(int what) {
        if (what >= ABOUT_SHELVES && what < ABOUT_SHELVES + MOST_SHELVES) {
            Page page = pageOn(what - ABOUT_SHELVES);
            return page == null ? 0 : page.count;
        }
        switch (what) {
            case 0:
                return leastGap;
            case 1:
                return samples.count;
            case 2:
                return actCount;
            case 3:
                return tape.length;
            default:
                return NONE;
        }
    }

    private Page pageOn(int shelf) {
        return shelf < 0 || shelf >= MOST_SHELVES ? null : shelves[shelf];
    }

    private Part partOn(int shelf, int number) {
        Page page = pageOn(shelf);
        return page == null ? null : page.at(number);
    }

    private Loop loopOn(int shelf, int a, int b) {
        Part one = partOn(shelf, a);
        Part other = partOn(shelf, b);
        return one == null || other == null ? null : Loop.of(one, other);
    }

    /** The latest few tables are kept, since a RUN asks again and again for the same two PAGES. */
    private Likeness likenessFor(Part part, Page page) {
        Likeness table = null;
        for (int i = 0; i < MOST_LIKENESSES && table == null; i++) {
            Likeness kept = likenesses[i];
            if (kept != null && kept.from == part.page && kept.to == page) {
                table = kept;
            }
        }
        if (table == null) {
            table = oldestTable();
            table.begin(part.page, page);
        }
        table.measure(part);
        return table;
    }

    private Likeness oldestTable() {
        int slot = oldestLikeness;
        oldestLikeness = slot + 1 < MOST_LIKENESSES ? slot + 1 : 0;
        if (likenesses[slot] == null) {
            likenesses[slot] = new Likeness(forests);
        }
        return likenesses[slot];
    }

    private int tell(boolean click, Part part, Loop rows) {
        if (actCount >= MOST_ACTS) {
            return NONE;
        }
        acts[actCount] = new Act(click, part, rows);
        actCount++;
        return actCount;
    }

    private boolean perform(Act told, Page page) {
        if (told == null) {
            return false;
        }
        if (told.rows != null) {
            return performRows(told.rows, told.click, page);
        }
        Likeness likeness = likenessFor(told.part, page);
        int answer = findingOfRun.look(told.part, page, likeness, leastGap);
        Part best = findingOfRun.best;
        if (answer == MISSING || best == null) {
            return latestRun.stop(Run.AT_MISSING, null);
        }
        if (answer == DOUBTFUL) {
            return latestRun.stop(Run.AT_DOUBTFUL, best);
        }
        return latestRun.take(best, told.click);
    }

    private boolean performRows(Loop rows, boolean click, Page page) {
        for (int k = 0; k < MOST_PARTS; k++) {
            Part one = rows.stepOn(page, k);
            if (one == null) {
                return true;
            }
            if (!latestRun.take(one, click)) {
                return false;
            }
        }
        return true;
    }

    private static boolean areMarks(int marks) {
        return marks >= 1 && marks <= ALL_MARKS;
    }

    private static int numberOf(Part part) {
        return part == null ? NONE : part.number;
    }

    private static int letterOf(long word, int k) {
        if (k < 0 || k >= Tokens.MOST_LETTERS) {
            return NONE;
        }
        int letter = (int) (word >> (k * Tokens.LETTER_BITS)) & Tokens.LETTER_MASK;
        return letter == 0 ? NONE : letter + Tokens.BEFORE_A;
    }

    /** The bytes that were fed and not yet made a PAGE. */
    private static final class Tape {
        private final byte[] bytes = new byte[MOST_BYTES];
        private int length = 0;

        private void append(int number) {
            for (int shift = 24; shift >= 0; shift -= 8) {
                if (length < MOST_BYTES) {
                    bytes[length] = (byte) (number >> shift);
                    length++;
                }
            }
        }

        private int byteAt(int place) {
            return place < 0 || place >= length ? NONE : bytes[place] & 255;
        }
    }

    /**
     * The TOKENS of the TAPE, one after the other. Words and TEXT are kept as numbers, so that two
     * of them are the same just when their numbers are, and no bytes need be held with a PAGE.
     */
    private static final class Tokens {
        private static final int END = 0;
        private static final int WORD = 1;
        private static final int TEXT = 2;
        private static final int HASH = 3;
        private static final int BANG = 4;
        private static final int OPEN = 5;
        private static final int CLOSE = 6;
        private static final int NO_TOKEN = 7;

        private static final int MOST_LETTERS = 8;
        private static final int LETTER_BITS = 5;
        private static final int LETTER_MASK = 31;
        private static final int BEFORE_A = 'a' - 1;
        private static final int MOST_TEXT = 16;
        private static final int HALF_TEXT = 8;

        private final Tape tape;
        private int at = 0;
        private int token = END;
        private int place = 0;
        private long word = 0;
        private long textHead = 0;
        private long textTail = 0;
        private int textLength = 0;

        private Tokens(Tape tape) {
            this.tape = tape;
        }

        private void rewind() {
            at = 0;
        }

        private void advance() {
            while (at < tape.length && isBlank(tape.byteAt(at))) {
                at++;
            }
            place = at;
            int sign = tape.byteAt(at);
            if (isLetter(sign)) {
                takeWord();
            } else if (sign == '"') {
                takeText();
            } else {
                token = at >= tape.length ? END : signToken(sign);
                at++;
            }
        }

        private void takeWord() {
            token = WORD;
            word = 0;
            for (int k = 0; k < MOST_LETTERS && isLetter(tape.byteAt(at)); k++) {
                word |= (long) (tape.byteAt(at) - BEFORE_A) << (k * LETTER_BITS);
                at++;
            }
        }

        private void takeText() {
            at++;
            textHead = 0;
            textTail = 0;
            textLength = 0;
            for (int k = 0; k < MOST_TEXT && isTextByte(tape.byteAt(at)); k++) {
                putTextByte(tape.byteAt(at));
                at++;
            }
            token = tape.byteAt(at) == '"' ? TEXT : NO_TOKEN;
            at++;
        }

        private void putTextByte(int sign) {
            if (textLength < HALF_TEXT) {
                textHead |= (long) sign << (8 * textLength);
            } else {
                textTail |= (long) sign << (8 * (textLength - HALF_TEXT));
            }
            textLength++;
        }

        private static int signToken(int sign) {
            switch (sign) {
                case '#':
                    return HASH;
                case '!':
                    return BANG;
                case '(':
                    return OPEN;
                case ')':
                    return CLOSE;
                default:
                    return NO_TOKEN;
            }
        }

        private static boolean isBlank(int sign) {
            return sign == 32 || sign == 10;
        }

        private static boolean isLetter(int sign) {
            return sign >= 'a' && sign <= 'z';
        }

        private static boolean isTextByte(int sign) {
            return sign >= 32 && sign <= 126 && sign != '"';
        }
    }

    /** Makes a PAGE of the TAPE; the stage tells what of the latest PART has been read. */
    private static final class Reader {
        private static final int NO_FAULT = 0;
        private static final int FAULT_NO_TOKEN = 1;
        private static final int FAULT_MISPLACED = 2;

        private static final int WANTS_PART = 0;
        private static final int WANTS_NAME = 1;
        private static final int HAS_KIND = 2;
        private static final int HAS_NAME = 3;
        private static final int HAS_TEXT = 4;
        private static final int HAS_HARM = 5;
        private static final int HAS_CHILDREN = 6;

        private final Tokens tokens;
        private int faultKind = NO_FAULT;
        private int faultPlace = NONE;
        private int stage = WANTS_PART;
        private Part open = null;
        private Part latest = null;

        private Reader(Tape tape) {
            tokens = new Tokens(tape);
        }

        private Page readPage() {
            Page page = new Page();
            tokens.rewind();
            faultKind = NO_FAULT;
            faultPlace = NONE;
            stage = WANTS_PART;
            open = null;
            latest = null;
            // Each TOKEN takes a byte or more, and the end is one more step.
            for (int step = 0; step <= MOST_BYTES; step++) {
                tokens.advance();
                if (tokens.token == Tokens.END && stage >= HAS_KIND && open == null) {
                    return page;
                }
                if (!takeToken(page)) {
                    break;
                }
            }
            faultKind = tokens.token == Tokens.NO_TOKEN ? FAULT_NO_TOKEN : FAULT_MISPLACED;
            faultPlace = tokens.place;
            return null;
        }

        private boolean takeToken(Page page) {
            switch (tokens.token) {
                case Tokens.WORD:
                    return stage == WANTS_NAME ? takeName() : takeKind(page);
                case Tokens.HASH:
                    return move(HAS_KIND, WANTS_NAME);
                case Tokens.TEXT:
                    return takeText();
                case Tokens.BANG:
                    return takeHarm();
                case Tokens.OPEN:
                    return goDown();
                case Tokens.CLOSE:
                    return goUp();
                default:
                    return false;
            }
        }

        /** The order of a PART's pieces is the order of the stages: a piece may follow any earlier one. */
        private boolean move(int last, int to) {
            if (latest == null || stage < HAS_KIND || stage > last) {
                return false;
            }
            stage = to;
            return true;
        }

        private boolean takeKind(Page page) {
            boolean beside = stage != WANTS_PART;
            if (beside && open == null) {
                return false;
            }
            if (page.count >= MOST_PARTS || (open != null && open.above >= MOST_ABOVE)) {
                return false;
            }
            latest = page.add(tokens.word, open, beside ? latest : null);
            stage = HAS_KIND;
            return true;
        }

        private boolean takeName() {
            if (latest == null) {
                return false;
            }
            latest.name = tokens.word;
            stage = HAS_NAME;
            return true;
        }

        private boolean takeText() {
            if (!move(HAS_NAME, HAS_TEXT)) {
                return false;
            }
            latest.textHead = tokens.textHead;
            latest.textTail = tokens.textTail;
            latest.textLength = tokens.textLength;
            return true;
        }

        private boolean takeHarm() {
            if (!move(HAS_TEXT, HAS_HARM)) {
                return false;
            }
            latest.harm = true;
            return true;
        }

        private boolean goDown() {
            if (!move(HAS_HARM, WANTS_PART)) {
                return false;
            }
            open = latest;
            return true;
        }

        private boolean goUp() {
            if (open == null || !move(HAS_CHILDREN, HAS_CHILDREN)) {
                return false;
            }
            latest = open;
            open = open.parent;
            return true;
        }
    }

    /** A PART; but for its clicks it stays as it was read, so ACTS and SAMPLES may hold it as told. */
    private static final class Part {
        private static final long KIND_LABEL = 12L | 1L << 5 | 2L << 10 | 5L << 15 | 12L << 20;

        private final Page page;
        private final int number;
        private final long kind;
        private final Part parent;
        private final Part left;
        private final Part label;
        private final int turn;
        private final int above;
        private Part right = null;
        private int under = 0;
        private long name = 0;
        private long textHead = 0;
        private long textTail = 0;
        private int textLength = NONE;
        private boolean harm = false;
        private int clicks = 0;
        private int clickedInRun = 0;

        private Part(Page page, long kind, Part parent, Part left) {
            this.page = page;
            this.kind = kind;
            this.parent = parent;
            this.left = left;
            number = page.count;
            label = labelBehind(page.at(page.count - 1));
            turn = turnBehind(left, kind);
            above = parent == null ? 0 : parent.above + 1;
        }

        private static Part labelBehind(Part before) {
            if (before == null) {
                return null;
            }
            return before.kind == KIND_LABEL && before.textLength > 0 ? before : before.label;
        }

        private static int turnBehind(Part left, long kind) {
            for (Part one = left; one != null; one = one.left) {
                if (one.kind == kind) {
                    return one.turn + 1;
                }
            }
            return 0;
        }

        private int textByte(int k) {
            if (k < 0 || k >= textLength) {
                return NONE;
            }
            boolean inHead = k < Tokens.HALF_TEXT;
            long half = inHead ? textHead : textTail;
            return (int) (half >> (8 * (inHead ? k : k - Tokens.HALF_TEXT))) & 255;
        }

        private boolean isHarmful() {
            for (Part one = this; one != null; one = one.parent) {
                if (one.harm) {
                    return true;
                }
            }
            return false;
        }

        private boolean hasTextOf(Part other) {
            return textLength == other.textLength
                    && textHead == other.textHead
                    && textTail == other.textTail;
        }

        /** Whether this PART's PATH is the other's, if that one's TURN at a level were the given one. */
        private boolean hasPathOf(Part other, int level, int turnThere) {
            Part mine = this;
            Part its = other;
            while (mine != null && its != null) {
                int due = its.above == level ? turnThere : its.turn;
                if (mine.kind != its.kind || mine.turn != due) {
                    return false;
                }
                mine = mine.parent;
                its = its.parent;
            }
            return mine == null && its == null;
        }

        private int marksSharedWith(Part other) {
            int marks = 0;
            marks |= name == other.name ? MARK_NAME : 0;
            marks |= hasTextOf(other) ? MARK_TEXT : 0;
            marks |= kind == other.kind ? MARK_KIND : 0;
            marks |= turn == other.turn ? MARK_TURN : 0;
            marks |= kindOf(parent) == kindOf(other.parent) ? MARK_PARENT_KIND : 0;
            marks |= nameOf(parent) == nameOf(other.parent) ? MARK_PARENT_NAME : 0;
            marks |= sameLabel(label, other.label) ? MARK_LABEL : 0;
            marks |= hasPathOf(other, NONE, 0) ? MARK_PATH : 0;
            return marks;
        }

        private boolean fitsMarksOf(Part other, int marks) {
            return (marksSharedWith(other) & marks) == marks;
        }

        private static long kindOf(Part part) {
            return part == null ? 0 : part.kind;
        }

        private static long nameOf(Part part) {
            return part == null ? 0 : part.name;
        }

        private static boolean sameLabel(Part a, Part b) {
            return a == null || b == null ? a == b : a.hasTextOf(b);
        }
    }

    private static final class Page {
        private final Part[] parts = new Part[MOST_PARTS];
        private int count = 0;

        private Part at(int number) {
            return number < 0 || number >= count ? null : parts[number];
        }

        private Part add(long kind, Part parent, Part left) {
            if (count >= MOST_PARTS) {
                return null;
            }
            Part fresh = new Part(this, kind, parent, left);
            if (left != null) {
                left.right = fresh;
            }
            for (Part one = parent; one != null; one = one.parent) {
                one.under++;
            }
            parts[count] = fresh;
            count++;
            return fresh;
        }

        private int countFitting(Part told, int marks) {
            int fitting = 0;
            for (int number = 0; number < count; number++) {
                Part one = at(number);
                if (one != null && one.fitsMarksOf(told, marks)) {
                    fitting++;
                }
            }
            return fitting;
        }

        private Part fitting(Part told, int marks, int k) {
            int ahead = k;
            for (int number = 0; number < count && ahead >= 0; number++) {
                Part one = at(number);
                if (one != null && one.fitsMarksOf(told, marks)) {
                    if (ahead == 0) {
                        return one;
                    }
                    ahead--;
                }
            }
            return null;
        }
    }

    /**
     * FAR and COST of the PARTS of one PAGE and those of another. FAR is the distance of ordered
     * trees after Zhang and Shasha, here from the right to the left: numbers go down a tree before
     * they go on beside it, so what is under a PART are the numbers behind its own, and a row of
     * PARTS from one number up to the last under a key part is a forest.
     */
    private static final class Likeness {
        private static final int KIND_CHANGE = 4;
        private static final int NAME_CHANGE = 2;
        private static final int TEXT_CHANGE = 1;
        private static final int ONE_PART = 3;
        private static final int FAR_WEIGHT = 3;
        private static final int WIDTH = MOST_PARTS + 1;

        private final int[] forests;
        private final int[] fars = new int[MOST_PARTS * MOST_PARTS];
        private final boolean[] known = new boolean[MOST_PARTS];
        private Page from = null;
        private Page to = null;

        private Likeness(int[] forests) {
            this.forests = forests;
        }

        private void begin(Page freshFrom, Page freshTo) {
            from = freshFrom;
            to = freshTo;
            for (int number = 0; number < MOST_PARTS; number++) {
                known[number] = false;
            }
        }

        private int costOf(Part a, Part b) {
            return FAR_WEIGHT * farOf(a, b)
                    + changeAlone(a.parent, b.parent)
                    + changeAlone(a.left, b.left)
                    + changeAlone(a.right, b.right);
        }

        private int farOf(Part a, Part b) {
            int at = a.number * MOST_PARTS + b.number;
            return at < 0 || at >= fars.length ? NONE : fars[at];
        }

        /**
         * Makes FAR known of a PART, and of those under it, to all PARTS of the other PAGE. Key
         * parts go from the last to the first, since each one's forests rest on those behind it.
         */
        private void measure(Part a) {
            int last = a.number + a.under;
            if (from == null || to == null || last >= from.count || known[a.number]) {
                return;
            }
            for (int i = last; i >= a.number; i--) {
                Part key = from.at(i);
                if (key != null && !known[i] && (key.right != null || i == a.number)) {
                    measureKey(key);
                }
            }
            for (int i = a.number; i <= last; i++) {
                known[i] = true;
            }
        }

        private void measureKey(Part key) {
            for (int j = to.count - 1; j >= 0; j--) {
                Part other = to.at(j);
                if (other != null && (other.right != null || j == 0)) {
                    measureForests(key, other);
                }
            }
        }

        private void measureForests(Part a, Part b) {
            int endA = a.number + a.under + 1;
            int endB = b.number + b.under + 1;
            if (endA > from.count || endB > to.count) {
                return;
            }
            forests[endA * WIDTH + endB] = 0;
            for (int j = endB - 1; j >= b.number; j--) {
                forests[endA * WIDTH + j] = (endB - j) * ONE_PART;
            }
            for (int i = endA - 1; i >= a.number; i--) {
                forests[i * WIDTH + endB] = (endA - i) * ONE_PART;
                Part one = from.at(i);
                if (one == null || i + one.under >= endA) {
                    return;
                }
                int behindOne = i + one.under + 1;
                for (int j = endB - 1; j >= b.number; j--) {
                    Part other = to.at(j);
                    if (other == null || j + other.under >= endB) {
                        return;
                    }
                    int behindOther = j + other.under + 1;
                    int at = i * WIDTH + j;
                    int least = Math.min(forests[at + WIDTH], forests[at + 1]) + ONE_PART;
                    if (behindOne == endA && behindOther == endB) {
                        least = Math.min(least, forests[at + WIDTH + 1] + change(one, other));
                        fars[i * MOST_PARTS + j] = least;
                    } else {
                        int apart = forests[behindOne * WIDTH + behindOther] + fars[i * MOST_PARTS + j];
                        least = Math.min(least, apart);
                    }
                    forests[at] = least;
                }
            }
        }

        private static int change(Part a, Part b) {
            return (a.kind == b.kind ? 0 : KIND_CHANGE)
                    + (a.name == b.name ? 0 : NAME_CHANGE)
                    + (a.hasTextOf(b) ? 0 : TEXT_CHANGE);
        }

        private static int changeAlone(Part a, Part b) {
            if (a == null || b == null) {
                return a == b ? 0 : ONE_PART;
            }
            return change(a, b);
        }
    }

    /** What the latest FINDING told that was not MISSING. */
    private static final class Finding {
        private Part best = null;
        private Part next = null;
        private int bestCost = NONE;
        private int nextCost = NONE;

        private int look(Part told, Page page, Likeness likeness, int leastGap) {
            Part first = null;
            Part second = null;
            int firstCost = NONE;
            int secondCost = NONE;
            for (int number = 0; number < page.count; number++) {
                Part one = page.at(number);
                if (one == null || one.kind != told.kind) {
                    continue;
                }
                int itsCost = likeness.costOf(told, one);
                if (first == null || itsCost < firstCost) {
                    second = first;
                    secondCost = firstCost;
                    first = one;
                    firstCost = itsCost;
                } else if (second == null || itsCost < secondCost) {
                    second = one;
                    secondCost = itsCost;
                }
            }
            if (first == null) {
                return MISSING;
            }
            best = first;
            next = second;
            bestCost = firstCost;
            nextCost = secondCost;
            return second == null || secondCost - firstCost >= leastGap ? FOUND : DOUBTFUL;
        }
    }

    /** The SAMPLES, with what is the same of all and which MARKS another PART of a SAMPLE's PAGE FITS. */
    private static final class Samples {
        private final Part[] told = new Part[MOST_SAMPLES];
        private final boolean[] shared = new boolean[ALL_MARKS + 1];
        private int count = 0;
        private int steadyMarks = 0;

        private Part first() {
            return count == 0 ? null : told[0];
        }

        private void add(Part fresh) {
            if (count >= MOST_SAMPLES) {
                return;
            }
            Part first = first();
            steadyMarks = first == null ? ALL_MARKS : steadyMarks & first.marksSharedWith(fresh);
            told[count] = fresh;
            count++;
            Page page = fresh.page;
            for (int number = 0; number < page.count; number++) {
                Part other = page.at(number);
                if (other != null && number != fresh.number) {
                    noteShared(other.marksSharedWith(fresh));
                }
            }
        }

        /** Who FITS some MARKS FITS each set of them, too; what is noted has its sets noted already. */
        private void noteShared(int marks) {
            if (marks < 0 || marks > ALL_MARKS || shared[marks]) {
                return;
            }
            for (int set = marks; set > 0; set = (set - 1) & marks) {
                shared[set] = true;
            }
        }

        private void dropAll() {
            count = 0;
            steadyMarks = 0;
            for (int marks = 0; marks <= ALL_MARKS; marks++) {
                shared[marks] = false;
            }
        }

        private int leastMarks() {
            int least = NONE;
            int fewest = 0;
            for (int marks = 1; marks <= ALL_MARKS; marks++) {
                if ((marks & steadyMarks) != marks || shared[marks]) {
                    continue;
                }
                int size = Integer.bitCount(marks);
                if (least == NONE || size < fewest) {
                    least = marks;
                    fewest = size;
                }
            }
            return least;
        }
    }

    /** A LOOP: the PATH of a PART that was shown, with a TURN at one level that goes on by steps. */
    private static final class Loop {
        private final Part shown;
        private final int level;
        private final int firstTurn;
        private final int step;

        private Loop(Part shown, int level, int firstTurn, int step) {
            this.shown = shown;
            this.level = level;
            this.firstTurn = firstTurn;
            this.step = step;
        }

        private static Loop of(Part a, Part b) {
            if (a.above != b.above) {
                return null;
            }
            Part apart = null;
            Part otherApart = null;
            Part one = a;
            Part other = b;
            while (one != null && other != null) {
                boolean differ = one.turn != other.turn;
                if (one.kind != other.kind || (differ && apart != null)) {
                    return null;
                }
                if (differ) {
                    apart = one;
                    otherApart = other;
                }
                one = one.parent;
                other = other.parent;
            }
            if (apart == null || otherApart == null) {
                return null;
            }
            int lower = Math.min(apart.turn, otherApart.turn);
            return new Loop(a, apart.above, lower, Math.abs(apart.turn - otherApart.turn));
        }

        /** The PART so many steps on, whether or not those ahead of it are there. */
        private Part stepOn(Page page, int k) {
            int turn = firstTurn + k * step;
            for (int number = 0; number < page.count; number++) {
                Part one = page.at(number);
                if (one != null && one.hasPathOf(shown, level, turn)) {
                    return one;
                }
            }
            return null;
        }

        private int countRows(Page page) {
            int rows = 0;
            while (rows < MOST_PARTS && stepOn(page, rows) != null) {
                rows++;
            }
            return rows;
        }

        private Part rowOn(Page page, int k) {
            for (int row = 0; row < MOST_PARTS && row <= k; row++) {
                Part one = stepOn(page, row);
                if (one == null || row == k) {
                    return one;
                }
            }
            return null;
        }
    }

    /** An ACT; of a LOOP the rows are not null. */
    private static final class Act {
        private final boolean click;
        private final Part part;
        private final Loop rows;

        private Act(boolean click, Part part, Loop rows) {
            this.click = click;
            this.part = part;
            this.rows = rows;
        }
    }

    /** The latest RUN. Its serial marks the PARTS that were CLICKED in it; 0: there was none yet. */
    private static final class Run {
        private static final int NOT_STOPPED = 0;
        private static final int AT_DOUBTFUL = 1;
        private static final int AT_MISSING = 2;
        private static final int AT_HARM = 3;

        private final Part[] kept = new Part[MOST_KEPT];
        private int serial = 0;
        private int reason = NOT_STOPPED;
        private Part stoppedAt = null;
        private int clicks = 0;
        private int reads = 0;

        private void begin() {
            serial++;
            reason = NOT_STOPPED;
            stoppedAt = null;
            clicks = 0;
            reads = 0;
        }

        private boolean stop(int why, Part where) {
            reason = why;
            stoppedAt = where;
            return false;
        }

        private boolean take(Part part, boolean click) {
            if (!click) {
                keep(part);
                return true;
            }
            if (part.isHarmful()) {
                return stop(AT_HARM, part);
            }
            if (part.clickedInRun != serial) {
                part.clickedInRun = serial;
                part.clicks++;
                clicks++;
            }
            return true;
        }

        private void keep(Part part) {
            if (reads < MOST_KEPT) {
                kept[reads] = part;
            }
            reads++;
        }

        private Part keptAt(int j) {
            return j < 0 || j >= reads || j >= MOST_KEPT ? null : kept[j];
        }
    }
}
