/**
 * Quotes within quotes: a speech of words, paragraphs and marks, read by one of four tongues,
 * with its faults, the least change that leaves none, and hand edits that can be undone.
 */
public final class SpeechMarks {
    public static final int BAD = -1, NO = -2, FULL = -3, NONE = -4;

    private static final int MOST_SIGNS = 120;
    private static final int MOST_LETTERS = 200;
    private static final int MOST_UNDONE = 6;
    private static final int DEEPEST = 6;
    private static final int TONGUES = 4;
    private static final int RULES = 3;

    private static final int PUT_IN = 0;
    private static final int TAKEN_OUT = 1;
    private static final int ANOTHER = 2;
    private static final int WEIGHTS = 3;
    private static final int HEAVIEST = 9;

    private static final int BLANK = ' ';
    private static final int BREAK = '|';
    private static final int NO_SIGN = 0;
    private static final String MARKS = "<>{}()[]\"'";

    /** Of each tongue in turn: outer opener, outer closer, inner opener, inner closer. */
    private static final char[] PAIRS = {
        '<', '>', '{', '}',
        '"', '"', '\'', '\'',
        '(', ')', '[', ']',
        '\'', '\'', '"', '"',
    };
    private static final int SIGNS_OF_TONGUE = 4;

    private static final int IS_LETTER = 0;
    private static final int IS_BLANK = 1;
    private static final int IS_BREAK = 2;
    private static final int OPENS = 3;
    private static final int CLOSES = 4;
    private static final int RENEWS = 5;
    private static final int IS_WRONG = 6;

    private static final int WRONG_HERE = 1;
    private static final int WRONG_TONGUE = 2;
    private static final int WRONG_DUE = 3;
    private static final int WRONG_OPEN = 4;

    private static final int WRONG_FACTS = 2;
    /** A place may have two wrongs, and so may the place behind the last sign. */
    private static final int MOST_WRONGS = 2 * MOST_SIGNS + 2;

    private static final int QUOTE_OPENS = 0;
    private static final int QUOTE_CLOSED = 1;
    private static final int QUOTE_LEVEL = 2;
    private static final int QUOTE_LETTERS = 3;
    private static final int QUOTE_OWN_LETTERS = 4;
    private static final int QUOTE_BREAKS = 5;
    private static final int QUOTE_WITHIN = 6;
    private static final int QUOTE_FACTS = 7;

    private static final int PARAGRAPH_DEPTH = 0;
    private static final int PARAGRAPH_LETTERS = 1;
    private static final int PARAGRAPH_RENEWERS = 2;
    private static final int PARAGRAPH_FACTS = 3;

    /** A state of reading is depth * SPAN + how many marks are still due. */
    private static final int SPAN = DEEPEST + 1;
    private static final int STATES = SPAN * SPAN;
    private static final int STUCK = -1;
    /** In any state two marks at most may come next. */
    private static final int CHOICES = 2;

    private static final int FAR = 1000000;
    /**
     * Taking out every mark costs 9 * 120 at most and leaves no wrongs, so no least way puts in
     * more marks than that.
     */
    private static final int MOST_MENDED = MOST_SIGNS + HEAVIEST * MOST_SIGNS;

    private final Row text = new Row(MOST_LETTERS);
    private int textSize;
    private final Speech speech = new Speech();
    private final History history = new History();
    private final Reading reading = new Reading();
    private final Mending mending = new Mending();
    private boolean readingIsFresh;
    private boolean mendingIsFresh;

    public SpeechMarks() {
        textSize = 0;
        readingIsFresh = false;
        mendingIsFresh = false;
    }

    // ---- told

    public int write(int letter) {
        if (letter < 32 || letter > 126) {
            return BAD;
        }
        if (textSize >= MOST_LETTERS) {
            return FULL;
        }
        text.set(textSize, letter);
        textSize++;
        return textSize;
    }

    public int wipe() {
        int was = textSize;
        textSize = 0;
        return was;
    }

    public int fault() {
        for (int i = 0; i < textSize; i++) {
            if (i >= MOST_SIGNS || !isSign(text.at(i))) {
                return i;
            }
        }
        return NONE;
    }

    public int lay() {
        if (fault() != NONE) {
            return NO;
        }
        speech.replaceBy(text, textSize);
        history.forget();
        outdate();
        return speech.size;
    }

    public int speak() {
        int tongue = tongueNamed();
        if (tongue == NONE) {
            return NONE;
        }
        if (tongue == speech.tongue) {
            return NO;
        }
        beginChange();
        speech.tongue = tongue;
        return tongue;
    }

    public int rule(int r) {
        if (!isBelow(r, RULES)) {
            return BAD;
        }
        if (r == speech.ruling) {
            return NO;
        }
        beginChange();
        int was = speech.ruling;
        speech.ruling = r;
        return was;
    }

    public int weigh(int which, int w) {
        if (!isBelow(which, WEIGHTS) || w < 1 || w > HEAVIEST) {
            return BAD;
        }
        int was = speech.weights.at(which);
        if (w == was) {
            return NO;
        }
        beginChange();
        speech.weights.set(which, w);
        return was;
    }

    public int put(int i, int sign) {
        if (i < 0 || i > speech.size || !isSign(sign)) {
            return BAD;
        }
        if (speech.size >= MOST_SIGNS) {
            return FULL;
        }
        beginChange();
        speech.insert(i, sign);
        return speech.size;
    }

    public int take(int i) {
        if (!isBelow(i, speech.size)) {
            return BAD;
        }
        int was = speech.signs.at(i);
        beginChange();
        speech.remove(i);
        return was;
    }

    public int alter(int i, int sign) {
        if (!isBelow(i, speech.size) || !isSign(sign)) {
            return BAD;
        }
        int was = speech.signs.at(i);
        if (sign == was) {
            return NO;
        }
        beginChange();
        speech.signs.set(i, sign);
        return was;
    }

    public int undo() {
        if (history.kept == 0) {
            return NO;
        }
        history.giveBack(speech);
        outdate();
        return history.kept;
    }

    // ---- read

    public int sign(int i) {
        return isBelow(i, speech.size) ? speech.signs.at(i) : BAD;
    }

    public int kind(int i) {
        return isBelow(i, speech.size) ? freshReading().kinds.at(i) : BAD;
    }

    public int depth(int i) {
        return isBelow(i, speech.size) ? freshReading().depths.at(i) : BAD;
    }

    public int partner(int i) {
        if (!isBelow(i, speech.size)) {
            return BAD;
        }
        int kind = freshReading().kinds.at(i);
        return kind == OPENS || kind == CLOSES ? reading.partners.at(i) : NO;
    }

    public int wrong(int i, int what) {
        if (i < -1 || !isBelow(what, WRONG_FACTS)) {
            return BAD;
        }
        return fact(freshReading().wrongs, reading.wrongCount, WRONG_FACTS, i, what);
    }

    public int quote(int i, int what) {
        if (i < -1 || !isBelow(what, QUOTE_FACTS)) {
            return BAD;
        }
        return fact(freshReading().quotes, reading.quoteCount, QUOTE_FACTS, i, what);
    }

    public int said(int d) {
        return d >= 0 && d <= DEEPEST ? freshReading().lettersAt.at(d) : BAD;
    }

    public int paragraph(int i, int what) {
        if (i < -1 || !isBelow(what, PARAGRAPH_FACTS)) {
            return BAD;
        }
        return fact(freshReading().paragraphs, reading.paragraphCount, PARAGRAPH_FACTS, i, what);
    }

    // ---- mended

    public int least() {
        return freshMending().leastSum();
    }

    public int changes(int what) {
        return isBelow(what, WEIGHTS) ? freshMending().tally.at(what) : BAD;
    }

    public int mended(int i) {
        if (i < -1) {
            return BAD;
        }
        return fact(freshMending().result, mending.size, 1, i, 0);
    }

    public int mend() {
        if (freshReading().wrongCount == 0) {
            return NO;
        }
        int sum = freshMending().leastSum();
        if (mending.size > MOST_SIGNS) {
            return FULL;
        }
        beginChange();
        speech.replaceBy(mending.result, mending.size);
        return sum;
    }

    public int would(int tongue, int rule) {
        if (!isBelow(tongue, TONGUES) || !isBelow(rule, RULES)) {
            return BAD;
        }
        mending.reckon(speech, tongue, rule);
        mendingIsFresh = false;
        return mending.leastSum();
    }

    public int retell(int tongue) {
        if (!isBelow(tongue, TONGUES)) {
            return BAD;
        }
        if (tongue == speech.tongue || freshReading().wrongCount > 0) {
            return NO;
        }
        beginChange();
        int was = speech.tongue;
        for (int i = 0; i < speech.size; i++) {
            retellSign(i, tongue);
        }
        speech.tongue = tongue;
        return was;
    }

    public int count(int what) {
        switch (what) {
            case 0: return speech.size;
            case 1: return speech.marks();
            case 2: return speech.tongue;
            case 3: return speech.ruling;
            case 4: return speech.weights.at(PUT_IN);
            case 5: return speech.weights.at(TAKEN_OUT);
            case 6: return speech.weights.at(ANOTHER);
            case 7: return textSize;
            case 8: return history.kept;
            case 9: return freshReading().greatest;
            case 10: return Grammar.depthOf(freshReading().state);
            default: return BAD;
        }
    }

    // ---- helpers of the face

    private void beginChange() {
        history.keep(speech);
        outdate();
    }

    private void outdate() {
        readingIsFresh = false;
        mendingIsFresh = false;
    }

    private Reading freshReading() {
        if (!readingIsFresh) {
            reading.readWhole(speech);
            readingIsFresh = true;
        }
        return reading;
    }

    private Mending freshMending() {
        if (!mendingIsFresh) {
            mending.reckon(speech, speech.tongue, speech.ruling);
            mending.followLeastWay();
            mendingIsFresh = true;
        }
        return mending;
    }

    private void retellSign(int i, int tongue) {
        int kind = reading.kinds.at(i);
        int level = reading.levels.at(i);
        if (kind == OPENS || kind == RENEWS) {
            speech.signs.set(i, openerOf(tongue, level));
        } else if (kind == CLOSES) {
            speech.signs.set(i, closerOf(tongue, level));
        }
    }

    private int tongueNamed() {
        for (int tongue = 0; tongue < TONGUES; tongue++) {
            if (textIs(nameOf(tongue))) {
                return tongue;
            }
        }
        return NONE;
    }

    private boolean textIs(String name) {
        if (name.length() != textSize) {
            return false;
        }
        for (int i = 0; i < name.length(); i++) {
            if (name.charAt(i) != text.at(i)) {
                return false;
            }
        }
        return true;
    }

    private static String nameOf(int tongue) {
        switch (tongue) {
            case 0: return "north";
            case 1: return "east";
            case 2: return "south";
            default: return "west";
        }
    }

    private static int fact(Row table, int rows, int width, int i, int what) {
        if (i == -1) {
            return rows;
        }
        return isBelow(i, rows) ? table.at(i * width + what) : NONE;
    }

    private static boolean isBelow(int number, int bound) {
        return number >= 0 && number < bound;
    }

    private static boolean isSign(int sign) {
        return isLetter(sign) || sign == BLANK || sign == BREAK || isMark(sign);
    }

    private static boolean isLetter(int sign) {
        return sign >= 'a' && sign <= 'z';
    }

    private static boolean isMark(int sign) {
        for (int i = 0; i < MARKS.length(); i++) {
            if (MARKS.charAt(i) == sign) {
                return true;
            }
        }
        return false;
    }

    private static int openerOf(int tongue, int depth) {
        return pairSign(tongue, (depth & 1) * 2);
    }

    private static int closerOf(int tongue, int depth) {
        return pairSign(tongue, ((depth - 1) & 1) * 2 + 1);
    }

    private static int pairSign(int tongue, int which) {
        int i = tongue * SIGNS_OF_TONGUE + which;
        return i >= 0 && i < PAIRS.length ? PAIRS[i] : NO_SIGN;
    }

    /** A row of numbers that looks at every index, so that no caller can leave it. */
    private static final class Row {
        private final int[] cells;

        Row(int size) {
            cells = new int[Math.max(size, 0)];
        }

        int at(int i) {
            return i >= 0 && i < cells.length ? cells[i] : 0;
        }

        void set(int i, int value) {
            if (i >= 0 && i < cells.length) {
                cells[i] = value;
            }
        }

        void add(int i, int more) {
            if (i >= 0 && i < cells.length) {
                cells[i] += more;
            }
        }

        void fill(int value) {
            for (int i = 0; i < cells.length; i++) {
                cells[i] = value;
            }
        }

        void copyFrom(Row other, int many) {
            for (int i = 0; i < many; i++) {
                set(i, other.at(i));
            }
        }
    }

    /** All that a change can change, and that can be undone. */
    private static final class Speech {
        private final Row signs = new Row(MOST_SIGNS);
        private int size;
        private int tongue;
        private int ruling;
        private final Row weights = new Row(WEIGHTS);

        Speech() {
            size = 0;
            tongue = 0;
            ruling = 1;
            weights.fill(1);
        }

        void becomeLike(Speech other) {
            replaceBy(other.signs, other.size);
            tongue = other.tongue;
            ruling = other.ruling;
            weights.copyFrom(other.weights, WEIGHTS);
        }

        void replaceBy(Row others, int many) {
            size = Math.min(many, MOST_SIGNS);
            signs.copyFrom(others, size);
        }

        void insert(int place, int sign) {
            for (int i = size; i > place; i--) {
                signs.set(i, signs.at(i - 1));
            }
            signs.set(place, sign);
            size = Math.min(size + 1, MOST_SIGNS);
        }

        void remove(int place) {
            for (int i = place; i < size - 1; i++) {
                signs.set(i, signs.at(i + 1));
            }
            size = Math.max(size - 1, 0);
        }

        int marks() {
            int many = 0;
            for (int i = 0; i < size; i++) {
                if (isMark(signs.at(i))) {
                    many++;
                }
            }
            return many;
        }
    }

    /** The speech as it was ahead of the latest changes: a ring, in which the oldest gives way. */
    private static final class History {
        private final Speech[] ring = new Speech[MOST_UNDONE];
        private int next;
        private int kept;

        History() {
            for (int i = 0; i < ring.length; i++) {
                ring[i] = new Speech();
            }
            next = 0;
            kept = 0;
        }

        void keep(Speech now) {
            Speech slot = slot(next);
            if (slot != null) {
                slot.becomeLike(now);
                next = next + 1 < MOST_UNDONE ? next + 1 : 0;
                kept = Math.min(kept + 1, MOST_UNDONE);
            }
        }

        void giveBack(Speech now) {
            int latest = next > 0 ? next - 1 : MOST_UNDONE - 1;
            Speech slot = slot(latest);
            if (slot != null && kept > 0) {
                now.becomeLike(slot);
                next = latest;
                kept--;
            }
        }

        void forget() {
            kept = 0;
        }

        private Speech slot(int i) {
            return i >= 0 && i < ring.length ? ring[i] : null;
        }
    }

    /** What a tongue and a rule allow: the one place that knows how a state goes on. */
    private static final class Grammar {
        private int tongue;
        private int ruling;
        /** Of each state and choice: the mark that may come next, and the state behind it. */
        private final Row offers = new Row(STATES * CHOICES);
        private final Row nexts = new Row(STATES * CHOICES);

        Grammar() {
            tongue = NONE;
            ruling = NONE;
        }

        void speakAs(int newTongue, int newRuling) {
            if (tongue == newTongue && ruling == newRuling) {
                return;
            }
            tongue = newTongue;
            ruling = newRuling;
            for (int depth = 0; depth <= DEEPEST; depth++) {
                learnFreeState(depth);
                int most = dueBehindBreak(depth);
                for (int left = 1; left <= most; left++) {
                    int state = stateOf(depth, left);
                    offer(state, 0, openerOf(tongue, most - left), state - 1);
                    offer(state, 1, NO_SIGN, STUCK);
                }
            }
        }

        private void learnFreeState(int depth) {
            int state = stateOf(depth, 0);
            if (depth < DEEPEST) {
                offer(state, 0, openerOf(tongue, depth), state + SPAN);
            } else {
                offer(state, 0, NO_SIGN, STUCK);
            }
            if (depth >= 1) {
                offer(state, 1, closerOf(tongue, depth), state - SPAN);
            } else {
                offer(state, 1, NO_SIGN, STUCK);
            }
        }

        private void offer(int state, int choice, int mark, int next) {
            offers.set(state * CHOICES + choice, mark);
            nexts.set(state * CHOICES + choice, next);
        }

        static int depthOf(int state) {
            return state / SPAN;
        }

        static int leftDue(int state) {
            return state % SPAN;
        }

        static int stateOf(int depth, int left) {
            return depth * SPAN + left;
        }

        /** How many marks are due behind a break: openers of 0, 1, .. in this order. */
        int dueBehindBreak(int depth) {
            if (ruling == 0) {
                return 0;
            }
            return ruling == 1 ? Math.min(depth, 1) : depth;
        }

        /** Depth stays while anything is due, so what is left tells which opener is the next. */
        int firstDue(int state) {
            return dueBehindBreak(depthOf(state)) - leftDue(state);
        }

        /** The marks that may come next, in the order in which mending tries them. */
        int offered(int state, int choice) {
            return offers.at(state * CHOICES + choice);
        }

        int behindOffer(int state, int choice) {
            return nexts.at(state * CHOICES + choice);
        }

        /** The state behind a sign, or STUCK if the sign is wrong in this state. */
        int step(int state, int sign) {
            if (leftDue(state) == 0) {
                if (isLetter(sign) || sign == BLANK) {
                    return state;
                }
                if (sign == BREAK) {
                    return state + dueBehindBreak(depthOf(state));
                }
            }
            for (int choice = 0; choice < CHOICES; choice++) {
                if (offered(state, choice) == sign) {
                    return behindOffer(state, choice);
                }
            }
            return STUCK;
        }

        boolean owns(int sign) {
            for (int which = 0; which < SIGNS_OF_TONGUE; which++) {
                if (pairSign(tongue, which) == sign) {
                    return true;
                }
            }
            return false;
        }
    }

    /** The speech as read: kinds, depths, wrongs, quotes and paragraphs. */
    private static final class Reading {
        private final Grammar grammar = new Grammar();
        private final Row kinds = new Row(MOST_SIGNS);
        private final Row depths = new Row(MOST_SIGNS);
        private final Row partners = new Row(MOST_SIGNS);
        /** The depth for which a mark stands that opens, closes or renews. */
        private final Row levels = new Row(MOST_SIGNS);
        private final Row wrongs = new Row(MOST_WRONGS * WRONG_FACTS);
        private int wrongCount;
        private final Row quotes = new Row(MOST_SIGNS * QUOTE_FACTS);
        private int quoteCount;
        private final Row paragraphs = new Row((MOST_SIGNS + 1) * PARAGRAPH_FACTS);
        private int paragraphCount;
        private final Row lettersAt = new Row(DEEPEST + 1);
        /** By level: the quote that is open there. */
        private final Row openQuotes = new Row(DEEPEST + 1);
        private int greatest;
        private int state;

        Reading() {
            state = 0;
        }

        void readWhole(Speech speech) {
            grammar.speakAs(speech.tongue, speech.ruling);
            begin();
            for (int place = 0; place < speech.size; place++) {
                int sign = speech.signs.at(place);
                if (!renews(place, sign)) {
                    readWithNothingDue(place, sign);
                }
                depths.set(place, Grammar.depthOf(state));
            }
            if (Grammar.leftDue(state) > 0) {
                addWrong(speech.size, WRONG_DUE);
            }
            if (Grammar.depthOf(state) > 0) {
                addWrong(speech.size, WRONG_OPEN);
            }
        }

        private void begin() {
            state = 0;
            wrongCount = 0;
            quoteCount = 0;
            paragraphCount = 0;
            greatest = 0;
            lettersAt.fill(0);
            beginParagraph();
        }

        private void beginParagraph() {
            int row = paragraphCount * PARAGRAPH_FACTS;
            paragraphs.set(row + PARAGRAPH_DEPTH, Grammar.depthOf(state));
            paragraphs.set(row + PARAGRAPH_LETTERS, 0);
            paragraphs.set(row + PARAGRAPH_RENEWERS, 0);
            paragraphCount++;
        }

        /** If a mark is due and the sign is another one, nothing is due any more behind this. */
        private boolean renews(int place, int sign) {
            int left = Grammar.leftDue(state);
            if (left == 0) {
                return false;
            }
            if (grammar.step(state, sign) == STUCK) {
                addWrong(place, WRONG_DUE);
                state -= left;
                return false;
            }
            kinds.set(place, RENEWS);
            levels.set(place, grammar.firstDue(state));
            addToParagraph(PARAGRAPH_RENEWERS);
            state--;
            return true;
        }

        private void readWithNothingDue(int place, int sign) {
            int next = grammar.step(state, sign);
            if (isLetter(sign)) {
                kinds.set(place, IS_LETTER);
                countLetter();
            } else if (sign == BLANK) {
                kinds.set(place, IS_BLANK);
            } else if (sign == BREAK) {
                kinds.set(place, IS_BREAK);
                addToOpenQuotes(QUOTE_BREAKS);
                beginParagraph();
            } else if (next == STUCK) {
                kinds.set(place, IS_WRONG);
                addWrong(place, grammar.owns(sign) ? WRONG_HERE : WRONG_TONGUE);
            } else if (next > state) {
                openQuote(place);
            } else {
                closeQuote(place);
            }
            if (next != STUCK) {
                state = next;
            }
        }

        private void countLetter() {
            int depth = Grammar.depthOf(state);
            lettersAt.add(depth, 1);
            addToParagraph(PARAGRAPH_LETTERS);
            addToOpenQuotes(QUOTE_LETTERS);
            if (depth > 0) {
                quotes.add(openQuotes.at(depth) * QUOTE_FACTS + QUOTE_OWN_LETTERS, 1);
            }
        }

        private void addToParagraph(int what) {
            paragraphs.add((paragraphCount - 1) * PARAGRAPH_FACTS + what, 1);
        }

        private void addToOpenQuotes(int what) {
            int depth = Grammar.depthOf(state);
            for (int level = 1; level <= depth; level++) {
                quotes.add(openQuotes.at(level) * QUOTE_FACTS + what, 1);
            }
        }

        private void openQuote(int place) {
            int depth = Grammar.depthOf(state);
            addToOpenQuotes(QUOTE_WITHIN);
            int row = quoteCount * QUOTE_FACTS;
            for (int what = 0; what < QUOTE_FACTS; what++) {
                quotes.set(row + what, 0);
            }
            quotes.set(row + QUOTE_OPENS, place);
            quotes.set(row + QUOTE_CLOSED, NONE);
            quotes.set(row + QUOTE_LEVEL, depth + 1);
            openQuotes.set(depth + 1, quoteCount);
            quoteCount++;
            greatest = Math.max(greatest, depth + 1);
            kinds.set(place, OPENS);
            levels.set(place, depth);
            partners.set(place, NONE);
        }

        private void closeQuote(int place) {
            int depth = Grammar.depthOf(state);
            int row = openQuotes.at(depth) * QUOTE_FACTS;
            int opener = quotes.at(row + QUOTE_OPENS);
            quotes.set(row + QUOTE_CLOSED, place);
            kinds.set(place, CLOSES);
            levels.set(place, depth);
            partners.set(place, opener);
            partners.set(opener, place);
        }

        private void addWrong(int place, int why) {
            wrongs.set(wrongCount * WRONG_FACTS, place);
            wrongs.set(wrongCount * WRONG_FACTS + 1, why);
            wrongCount++;
        }
    }

    /** The least change: what each state costs from each place on, and the way by the least. */
    private static final class Mending {
        private final Grammar grammar = new Grammar();
        private final Row signs = new Row(MOST_SIGNS);
        private int signCount;
        private final Row weights = new Row(WEIGHTS);
        private final Row costs = new Row((MOST_SIGNS + 1) * STATES);
        private final Row result = new Row(MOST_MENDED);
        private int size;
        private final Row tally = new Row(WEIGHTS);
        private int place;
        private int state;

        Mending() {
            signCount = 0;
            size = 0;
        }

        int leastSum() {
            return costAt(0, 0);
        }

        void reckon(Speech speech, int tongue, int ruling) {
            grammar.speakAs(tongue, ruling);
            signCount = speech.size;
            signs.copyFrom(speech.signs, signCount);
            weights.copyFrom(speech.weights, WEIGHTS);
            for (int from = signCount; from >= 0; from--) {
                reckonPlace(from);
                settlePuttingIn(from);
            }
        }

        private void reckonPlace(int from) {
            boolean atMark = from < signCount && isMark(signs.at(from));
            for (int depth = 0; depth <= DEEPEST; depth++) {
                int most = grammar.dueBehindBreak(depth);
                for (int left = 0; left <= most; left++) {
                    int here = Grammar.stateOf(depth, left);
                    int cost = atMark ? costAtMark(from, here) : costAtOther(from, here);
                    costs.set(from * STATES + here, cost);
                }
            }
        }

        /** Of a letter, a blank, a break, which can only stay, and of the end. */
        private int costAtOther(int from, int here) {
            if (from >= signCount) {
                return here == 0 ? 0 : FAR;
            }
            int stay = grammar.step(here, signs.at(from));
            return stay != STUCK ? costAt(from + 1, stay) : FAR;
        }

        private int costAtMark(int from, int here) {
            int sign = signs.at(from);
            int best = weights.at(TAKEN_OUT) + costAt(from + 1, here);
            for (int choice = 0; choice < CHOICES; choice++) {
                int next = grammar.behindOffer(here, choice);
                if (next != STUCK) {
                    int weight = grammar.offered(here, choice) == sign ? 0 : weights.at(ANOTHER);
                    best = Math.min(best, weight + costAt(from + 1, next));
                }
            }
            return best;
        }

        /**
         * Marks put in lead from depth to depth by 1, or to one due mark less: a sweep up, a sweep
         * down and one along what is due find the cheapest chain of them.
         */
        private void settlePuttingIn(int from) {
            for (int depth = 1; depth <= DEEPEST; depth++) {
                relax(from, Grammar.stateOf(depth, 0), Grammar.stateOf(depth - 1, 0));
            }
            for (int depth = DEEPEST - 1; depth >= 0; depth--) {
                relax(from, Grammar.stateOf(depth, 0), Grammar.stateOf(depth + 1, 0));
            }
            for (int depth = 1; depth <= DEEPEST; depth++) {
                int most = grammar.dueBehindBreak(depth);
                for (int left = 1; left <= most; left++) {
                    relax(from, Grammar.stateOf(depth, left), Grammar.stateOf(depth, left - 1));
                }
            }
        }

        private void relax(int from, int here, int there) {
            int cost = weights.at(PUT_IN) + costAt(from, there);
            if (cost < costAt(from, here)) {
                costs.set(from * STATES + here, cost);
            }
        }

        private int costAt(int from, int here) {
            return costs.at(from * STATES + here);
        }

        void followLeastWay() {
            size = 0;
            place = 0;
            state = 0;
            tally.fill(0);
            for (int steps = 0; steps < MOST_MENDED && !hasArrived(); steps++) {
                boolean done = letStay() || isAtMark() && (takeOffer(ANOTHER, place + 1) || leaveOut());
                if (!done) {
                    takeOffer(PUT_IN, place);
                }
            }
        }

        private boolean hasArrived() {
            return place >= signCount && state == 0;
        }

        private boolean isAtMark() {
            return place < signCount && isMark(signs.at(place));
        }

        private boolean isLeast(int weight, int nextPlace, int nextState) {
            return weight + costAt(nextPlace, nextState) == costAt(place, state);
        }

        private boolean letStay() {
            if (place >= signCount) {
                return false;
            }
            int sign = signs.at(place);
            int next = grammar.step(state, sign);
            if (next == STUCK || !isLeast(0, place + 1, next)) {
                return false;
            }
            say(sign);
            goTo(place + 1, next);
            return true;
        }

        private boolean leaveOut() {
            if (!isLeast(weights.at(TAKEN_OUT), place + 1, state)) {
                return false;
            }
            tally.add(TAKEN_OUT, 1);
            goTo(place + 1, state);
            return true;
        }

        private boolean takeOffer(int change, int nextPlace) {
            for (int choice = 0; choice < CHOICES; choice++) {
                int next = grammar.behindOffer(state, choice);
                if (next != STUCK && isLeast(weights.at(change), nextPlace, next)) {
                    say(grammar.offered(state, choice));
                    tally.add(change, 1);
                    goTo(nextPlace, next);
                    return true;
                }
            }
            return false;
        }

        private void say(int sign) {
            result.set(size, sign);
            size++;
        }

        private void goTo(int nextPlace, int nextState) {
            place = nextPlace;
            state = nextState;
        }
    }
}
