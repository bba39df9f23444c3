import java.util.ArrayList;
import java.util.Arrays;

/** A slate of sentences that are drawn by lines, with all readings of each sentence. */
public final class SlantSlate {
    public static final int NONE = -1;

    private static final int MAX_WORDS = 12;
    /** That is how many "nvnpnpnpnpn" has; no sentence of up to 12 words has more. */
    private static final int MAX_READINGS = 42;
    private static final int MAX_BUFFER = 20;
    private static final int MAX_SAVED = 6;
    private static final int SLOTS = 2;

    private static final int NOUN = 0;
    private static final int VERB = 1;
    private static final int ADJECTIVE = 2;
    private static final int ADVERB = 3;
    private static final int PREPOSITION = 4;
    private static final int JOINER = 5;
    private static final int OPENER = 6;
    private static final int KINDS = 7;
    /** The letters of the kinds, in their order. */
    private static final String LETTERS = "nvadpct";
    /** The kinds that a sentence can end with, as a mask. */
    private static final int ENDINGS = 1 << NOUN | 1 << VERB | 1 << ADVERB;

    private static final int ROOT = 0;
    private static final int SUBJECT = 1;
    private static final int OBJECT = 2;
    private static final int ON_SLANT = 3;
    private static final int BY_DASH = 4;
    private static final int ON_STILT = 5;
    private static final int IN_PHRASE = 6;

    /** In place of a fixed head: no head is fixed. */
    private static final int LOOSE = -2;
    /** Levels are told with this more, so that none is below 0. */
    private static final int LEVEL_SHIFT = 20;
    private static final int DIGEST_START = 3407;
    private static final int DIGEST_READINGS = 10;
    private static final long TWO_TO_52 = 1L << 52;

    private final State state = new State();
    private final Readings readings = new Readings();
    private final Parts parts = new Parts();
    /** The ranks, among all readings, of those that are left. */
    private final int[] left = new int[MAX_READINGS];
    private int leftCount = 0;
    private final Drawing drawn = new Drawing();
    private final Drawing other = new Drawing();
    private final State trial = new State();
    private final Readings trialReadings = new Readings();

    private final States saved = new States(MAX_SAVED);
    private int savedCount = 0;
    private final States slots = new States(SLOTS);
    private final boolean[] slotFilled = new boolean[SLOTS];
    private final int[] buffer = new int[MAX_BUFFER];
    private int bufferLength = 0;

    public SlantSlate() {
    }

    // ---- sentences

    public int add(int kind) throws IllegalArgumentException, IllegalStateException {
        needKind(kind);
        if (state.size() >= MAX_WORDS) {
            throw new IllegalStateException("the sentence is full");
        }
        saveState();
        state.pushWord(kind);
        return beginSentence();
    }

    public int change(int word, int kind) throws IndexOutOfBoundsException, IllegalArgumentException {
        needWord(word);
        needKind(kind);
        saveState();
        state.setKind(word, kind);
        return beginSentence();
    }

    public int wipe(int word) throws IndexOutOfBoundsException {
        needWord(word);
        saveState();
        state.dropWord(word);
        return beginSentence();
    }

    // ---- heads, drawings

    public int fix(int word, int head) throws IndexOutOfBoundsException, IllegalStateException {
        needWord(word);
        needHead(word, head);
        if (leftIf(word, head) == 0) {
            throw new IllegalStateException("no reading would be left");
        }
        saveState();
        state.setFixed(word, head);
        return beginHeads();
    }

    public int loosen(int word) throws IndexOutOfBoundsException {
        needWord(word);
        saveState();
        state.setFixed(word, LOOSE);
        return beginHeads();
    }

    public int draw(int rank) throws IndexOutOfBoundsException {
        needReading(rank);
        saveState();
        state.setDrawn(rank);
        drawAgain();
        return drawn.height();
    }

    public int flatten() throws IllegalStateException {
        if (leftCount == 0) {
            throw new IllegalStateException("no reading to flatten");
        }
        int flattest = flattestRank();
        saveState();
        state.setDrawn(flattest);
        drawAgain();
        return flattest;
    }

    // ---- texts, snapshots

    public int append(int code) throws IllegalArgumentException, IllegalStateException {
        if (code < 33 || code > 126) {
            throw new IllegalArgumentException("not a character of the buffer");
        }
        if (bufferLength >= MAX_BUFFER) {
            throw new IllegalStateException("the buffer is full");
        }
        pushCode(code);
        return bufferLength;
    }

    public int clearBuffer() {
        int length = bufferLength;
        bufferLength = 0;
        return length;
    }

    public int firstError() {
        return errorIndex();
    }

    public int load() throws IllegalArgumentException {
        if (bufferLength == 0 || errorIndex() < bufferLength) {
            throw new IllegalArgumentException("the buffer tells no sentence");
        }
        saveState();
        state.clearWords();
        for (int i = 0; i < bufferLength; i++) {
            state.pushWord(kindOfLetter(codeAt(i)));
        }
        bufferLength = 0;
        return beginSentence();
    }

    public int write() throws IllegalStateException {
        if (leftCount == 0) {
            throw new IllegalStateException("no reading to write");
        }
        bufferLength = 0;
        for (int turn = 0; turn < state.size(); turn++) {
            pushCode(letterOfKind(state.kindAt(drawn.wordAtTurn(turn))));
        }
        return bufferLength;
    }

    public int keep(int slot) throws IllegalArgumentException {
        needSlot(slot);
        slots.put(slot, state);
        slotFilled[slot] = true;
        return state.size();
    }

    public int goBack(int slot) throws IllegalArgumentException, IllegalStateException {
        needSlot(slot);
        if (!slotFilled[slot]) {
            throw new IllegalStateException("no snapshot in the slot");
        }
        saveState();
        slots.copyTo(slot, state);
        tellReadings();
        return state.size();
    }

    public int undo() throws IllegalStateException {
        if (savedCount == 0) {
            throw new IllegalStateException("no saved state");
        }
        savedCount--;
        saved.copyTo(savedCount, state);
        tellReadings();
        return savedCount;
    }

    // ---- looks; nothing is changed

    public int wordOf(int word, int what) throws IndexOutOfBoundsException, IllegalArgumentException {
        needWord(word);
        needAsked(what, 7);
        return wordProperty(word, what);
    }

    public int readingOf(int rank, int what) throws IndexOutOfBoundsException, IllegalArgumentException {
        needReading(rank);
        needAsked(what, 5);
        return readingProperty(rank, what);
    }

    public int count(int what) throws IllegalArgumentException {
        needAsked(what, 8);
        return number(what);
    }

    public int part(int from, int to, int what) throws IndexOutOfBoundsException, IllegalArgumentException {
        if (from < 0 || to <= from || to > state.size()) {
            throw new IndexOutOfBoundsException("no such part");
        }
        needAsked(what, 4);
        return parts.ways(from, to, what);
    }

    // ---- what would be; nothing is changed

    public int ifFixed(int word, int head) throws IndexOutOfBoundsException {
        needWord(word);
        needHead(word, head);
        return leftIf(word, head);
    }

    public int question() {
        return bestQuestion();
    }

    public int next() {
        return kindsToAdd();
    }

    public double sureShare() {
        return share();
    }

    public long digest() {
        long hash = DIGEST_START;
        for (int what = 0; what <= 8; what++) {
            hash = 31 * hash + number(what);
        }
        hash = digestWords(hash);
        hash = digestReadings(hash);
        hash = digestParts(hash);
        hash = 31 * hash + bestQuestion();
        hash = 31 * hash + kindsToAdd();
        hash = 31 * hash + bitsOfShare(share());
        for (int slot = 0; slot < SLOTS; slot++) {
            hash = 31 * hash + (slotFilled[slot] ? 1 : 0);
        }
        hash = 31 * hash + bufferLength;
        for (int i = 0; i < bufferLength; i++) {
            hash = 31 * hash + codeAt(i);
        }
        return hash;
    }

    // ---- what the calls need

    private void needKind(int kind) {
        if (kind < 0 || kind >= KINDS) {
            throw new IllegalArgumentException("no such kind");
        }
    }

    private void needWord(int word) {
        if (!state.has(word)) {
            throw new IndexOutOfBoundsException("no such word");
        }
    }

    private void needHead(int word, int head) {
        if (head == word || head != NONE && !state.has(head)) {
            throw new IndexOutOfBoundsException("no such head");
        }
    }

    private void needReading(int rank) {
        if (rank < 0 || rank >= leftCount) {
            throw new IndexOutOfBoundsException("no such reading");
        }
    }

    private void needSlot(int slot) {
        if (slot < 0 || slot >= SLOTS) {
            throw new IllegalArgumentException("no such slot");
        }
    }

    private void needAsked(int what, int last) {
        if (what < 0 || what > last) {
            throw new IllegalArgumentException("nothing is told by this number");
        }
    }

    // ---- the state and what follows from it

    private void saveState() {
        if (savedCount == MAX_SAVED) {
            saved.turnFirst();
            savedCount--;
        }
        saved.put(savedCount, state);
        savedCount++;
    }

    private int beginSentence() {
        state.loosenAll();
        state.setDrawn(0);
        tellReadings();
        return readings.total();
    }

    private int beginHeads() {
        state.setDrawn(0);
        tellLeft();
        drawAgain();
        return leftCount;
    }

    private void tellReadings() {
        readings.tell(state);
        parts.tell(state);
        tellLeft();
        drawAgain();
    }

    private void tellLeft() {
        leftCount = 0;
        for (int rank = 0; rank < readings.total(); rank++) {
            if (leftCount < left.length && fits(readings.codeAt(rank), NONE)) {
                left[leftCount] = rank;
                leftCount++;
            }
        }
    }

    private void drawAgain() {
        if (state.drawn() < leftCount) {
            drawn.trace(state, leftCode(state.drawn()));
        }
    }

    /** Tells if a reading has the heads that are fixed, that of one word left aside. */
    private boolean fits(long code, int aside) {
        for (int word = 0; word < state.size(); word++) {
            int fixed = state.fixedAt(word);
            if (word != aside && fixed != LOOSE && fixed != Readings.headIn(code, word)) {
                return false;
            }
        }
        return true;
    }

    private int rankAmongAll(int rank) {
        return rank >= 0 && rank < leftCount && rank < left.length ? left[rank] : 0;
    }

    private long leftCode(int rank) {
        return readings.codeAt(rankAmongAll(rank));
    }

    private int flattestRank() {
        int flattest = 0;
        int least = MAX_WORDS + 1;
        for (int rank = 0; rank < leftCount; rank++) {
            other.trace(state, leftCode(rank));
            if (other.height() < least) {
                least = other.height();
                flattest = rank;
            }
        }
        return flattest;
    }

    // ---- the buffer

    private void pushCode(int code) {
        if (bufferLength < buffer.length) {
            buffer[bufferLength] = code;
            bufferLength++;
        }
    }

    private int codeAt(int index) {
        return index >= 0 && index < buffer.length ? buffer[index] : 0;
    }

    private int errorIndex() {
        for (int i = 0; i < bufferLength; i++) {
            if (i >= MAX_WORDS || kindOfLetter(codeAt(i)) == NONE) {
                return i;
            }
        }
        return bufferLength;
    }

    private static int kindOfLetter(int code) {
        for (int kind = 0; kind < LETTERS.length(); kind++) {
            if (LETTERS.charAt(kind) == code) {
                return kind;
            }
        }
        return NONE;
    }

    private static int letterOfKind(int kind) {
        return kind >= 0 && kind < LETTERS.length() ? LETTERS.charAt(kind) : 0;
    }

    // ---- properties and numbers

    private int wordProperty(int word, int what) {
        switch (what) {
            case 0: return state.kindAt(word);
            case 6: return state.fixedAt(word) == LOOSE ? 0 : 1;
            case 7: return headsLeft(word);
            default: return leftCount == 0 ? NONE : drawn.property(word, what);
        }
    }

    private int readingProperty(int rank, int what) {
        other.trace(state, leftCode(rank));
        switch (what) {
            case 0: return other.height();
            case 1: return other.wordsOfKind(VERB);
            case 2: return other.wordsHeld(ON_SLANT);
            case 3: return other.wordsOfKind(JOINER);
            case 4: return other.greatestLoad();
            default: return rankAmongAll(rank);
        }
    }

    private int number(int what) {
        switch (what) {
            case 0: return state.size();
            case 1: return readings.total();
            case 2: return parts.ways(0, state.size(), Parts.CLAUSE);
            case 3: return leftCount;
            case 4: return leftCount == 0 ? NONE : state.drawn();
            case 5: return state.fixedWords();
            case 6: return openWords();
            case 7: return leftCount == 0 ? 0 : drawn.height();
            default: return savedCount;
        }
    }

    // ---- heads in the readings that are left

    private int leftIf(int word, int head) {
        int fitting = 0;
        for (int rank = 0; rank < readings.total(); rank++) {
            long code = readings.codeAt(rank);
            if (Readings.headIn(code, word) == head && fits(code, word)) {
                fitting++;
            }
        }
        return fitting;
    }

    private int headsLeft(int word) {
        int heads = 0;
        for (int rank = 0; rank < leftCount; rank++) {
            // the root's head is -1
            heads |= 1 << (Readings.headIn(leftCode(rank), word) + 1);
        }
        return Integer.bitCount(heads);
    }

    private int openWords() {
        int open = 0;
        for (int word = 0; word < state.size(); word++) {
            if (headsLeft(word) > 1) {
                open++;
            }
        }
        return open;
    }

    private int bestQuestion() {
        int best = NONE;
        int fewest = MAX_READINGS + 1;
        for (int word = 0; word < state.size(); word++) {
            if (headsLeft(word) > 1 && mostLeftBehind(word) < fewest) {
                fewest = mostLeftBehind(word);
                best = word;
            }
        }
        return best;
    }

    private int mostLeftBehind(int word) {
        int most = 0;
        for (int head = NONE; head < state.size(); head++) {
            most = Math.max(most, leftIf(word, head));
        }
        return most;
    }

    private double share() {
        int words = state.size();
        if (words == 0) {
            return 1.0;
        }
        int sure = 0;
        for (int word = 0; word < words; word++) {
            if (headsLeft(word) == 1) {
                sure++;
            }
        }
        return (double) sure / words;
    }

    private int kindsToAdd() {
        if (state.size() >= MAX_WORDS) {
            return 0;
        }
        int mask = 0;
        for (int kind = 0; kind < KINDS; kind++) {
            trial.take(state);
            trial.pushWord(kind);
            trialReadings.tell(trial);
            if (trialReadings.total() > 0) {
                mask |= 1 << kind;
            }
        }
        return mask;
    }

    // ---- pieces of the digest

    private long digestWords(long start) {
        long hash = start;
        for (int word = 0; word < state.size(); word++) {
            for (int what = 0; what <= 7; what++) {
                hash = 31 * hash + wordProperty(word, what);
            }
        }
        return hash;
    }

    private long digestReadings(long start) {
        long hash = start;
        for (int rank = 0; rank < leftCount && rank < DIGEST_READINGS; rank++) {
            for (int what = 0; what <= 5; what++) {
                hash = 31 * hash + readingProperty(rank, what);
            }
        }
        return hash;
    }

    private long digestParts(long start) {
        long hash = start;
        for (int word = 0; word < state.size(); word++) {
            for (int what = 0; what <= 4; what++) {
                hash = 31 * hash + parts.ways(0, word + 1, what);
            }
        }
        return hash;
    }

    /** The bits of a share, 0.0 to 1.0: the language's own function for them is not among those allowed. */
    private static long bitsOfShare(double share) {
        if (!(share > 0.0)) {
            return 0L;
        }
        double scaled = share;
        long exponent = 1023;
        for (int i = 0; i < 64 && scaled < 1.0; i++) {
            scaled *= 2.0;
            exponent--;
        }
        return (exponent << 52) + (long) ((scaled - 1.0) * (double) TWO_TO_52);
    }

    /** All that a snapshot or a saved state holds. */
    private static final class State {
        private final int[] kinds = new int[MAX_WORDS];
        private final int[] fixed = new int[MAX_WORDS];
        private int size = 0;
        private int drawn = 0;

        State() {
            Arrays.fill(fixed, LOOSE);
        }

        void take(State from) {
            System.arraycopy(from.kinds, 0, kinds, 0, MAX_WORDS);
            System.arraycopy(from.fixed, 0, fixed, 0, MAX_WORDS);
            size = from.size;
            drawn = from.drawn;
        }

        int size() {
            return size;
        }

        boolean has(int word) {
            return word >= 0 && word < size && word < MAX_WORDS;
        }

        int kindAt(int word) {
            return has(word) ? kinds[word] : NONE;
        }

        int fixedAt(int word) {
            return has(word) ? fixed[word] : LOOSE;
        }

        int drawn() {
            return drawn;
        }

        int fixedWords() {
            int words = 0;
            for (int word = 0; word < size; word++) {
                if (fixedAt(word) != LOOSE) {
                    words++;
                }
            }
            return words;
        }

        void clearWords() {
            size = 0;
        }

        void pushWord(int kind) {
            if (size < MAX_WORDS) {
                kinds[size] = kind;
                size++;
            }
        }

        void dropWord(int word) {
            if (has(word)) {
                System.arraycopy(kinds, word + 1, kinds, word, size - word - 1);
                size--;
            }
        }

        void setKind(int word, int kind) {
            if (has(word)) {
                kinds[word] = kind;
            }
        }

        void setFixed(int word, int head) {
            if (has(word)) {
                fixed[word] = head;
            }
        }

        void loosenAll() {
            Arrays.fill(fixed, LOOSE);
        }

        void setDrawn(int rank) {
            drawn = rank;
        }
    }

    /** A row of states, made once and written over. */
    private static final class States {
        private final ArrayList<State> row = new ArrayList<>();

        States(int length) {
            for (int i = 0; i < length; i++) {
                row.add(new State());
            }
        }

        void put(int index, State state) {
            if (index >= 0 && index < row.size()) {
                row.get(index).take(state);
            }
        }

        void copyTo(int index, State state) {
            if (index >= 0 && index < row.size()) {
                state.take(row.get(index));
            }
        }

        /** What was the first one goes to the end, to be written over. */
        void turnFirst() {
            if (row.size() > 0) {
                row.add(row.remove(0));
            }
        }
    }

    /**
     * All readings of a sentence, one by one. Only adverbs, prepositions and joiners have a choice of heads:
     * the heads of all other words follow from the order of the kinds.
     */
    private static final class Readings {
        private static final int BITS = 4;
        private static final int FREE_KINDS = 1 << ADVERB | 1 << PREPOSITION | 1 << JOINER;

        private final long[] codes = new long[MAX_READINGS];
        private int total = 0;
        private final int[] kinds = new int[MAX_WORDS];
        private final int[] heads = new int[MAX_WORDS];
        private int size = 0;

        int total() {
            return total;
        }

        long codeAt(int rank) {
            return rank >= 0 && rank < codes.length ? codes[rank] : 0L;
        }

        /** A reading is told by one number, each head and 1 in BITS bits. */
        static int headIn(long code, int word) {
            return (int) ((code >>> (BITS * word)) & ((1 << BITS) - 1)) - 1;
        }

        void tell(State state) {
            size = state.size();
            for (int word = 0; word < size && word < kinds.length; word++) {
                kinds[word] = state.kindAt(word);
            }
            total = 0;
            if (setForcedHeads()) {
                hangFrom(0);
            }
        }

        /** Ahead of the first word a clause begins, as behind an opener. */
        private int kindAt(int word) {
            return word >= 0 && word < size && word < kinds.length ? kinds[word] : OPENER;
        }

        private int headAt(int word) {
            return word >= 0 && word < heads.length ? heads[word] : NONE;
        }

        private void setHead(int word, int head) {
            if (word >= 0 && word < heads.length) {
                heads[word] = head;
            }
        }

        /** Answers false if the kinds don't stand in an order that a sentence can have. */
        private boolean setForcedHeads() {
            int opener = NONE;
            int subject = NONE;
            for (int word = 0; word < size; word++) {
                if (!inMask(followersOf(kindAt(word - 1)), kindAt(word))) {
                    return false;
                }
                switch (kindAt(word)) {
                    case NOUN:
                        if (hangNoun(word)) {
                            subject = word;
                        }
                        break;
                    case VERB:
                        if (subject == NONE) {
                            return false;
                        }
                        setHead(subject, word);
                        setHead(word, opener);
                        subject = NONE;
                        break;
                    case OPENER:
                        setHead(word, word - 1);
                        opener = word;
                        break;
                    default:
                        break;
                }
            }
            return size > 0 && subject == NONE && inMask(ENDINGS, kindAt(size - 1));
        }

        /** Answers true if the noun is a subject, which is hung only when its verb comes. */
        private boolean hangNoun(int noun) {
            int before = noun - 1;
            while (before >= 0 && kindAt(before) == ADJECTIVE) {
                setHead(before, noun);
                before--;
            }
            setHead(noun, before);
            return kindAt(before) == OPENER;
        }

        /** The kinds that a word right behind one can have, as a mask; a clause begins as behind an opener. */
        private static int followersOf(int kind) {
            switch (kind) {
                case NOUN: return 1 << VERB | 1 << ADVERB | 1 << PREPOSITION | 1 << JOINER;
                case VERB: return 1 << NOUN | 1 << ADJECTIVE | 1 << ADVERB | 1 << PREPOSITION | 1 << OPENER;
                case ADVERB: return 1 << ADVERB | 1 << PREPOSITION;
                default: return 1 << NOUN | 1 << ADJECTIVE;
            }
        }

        private static boolean inMask(int mask, int kind) {
            return ((mask >> kind) & 1) != 0;
        }

        /** Tries the heads from the least one on, word by word: so the readings come in their order. */
        private void hangFrom(int word) {
            if (word >= size || word >= MAX_WORDS) {
                pushReading();
                return;
            }
            if (!inMask(FREE_KINDS, kindAt(word))) {
                hangFrom(word + 1);
                return;
            }
            int open = openBehind(word - 1);
            for (int head = 0; head < word; head++) {
                if (inMask(open, head) && canHold(head, word)) {
                    setHead(word, head);
                    hangFrom(word + 1);
                }
            }
        }

        /**
         * The words that can still hold one behind the last word: the last word, its head, the head of that
         * and so on; all others are closed by a word behind them. A subject's chain ends with it, as its verb
         * is yet to come.
         */
        private int openBehind(int last) {
            int open = 0;
            int word = last;
            for (int step = 0; step < MAX_WORDS && word >= 0; step++) {
                open |= 1 << word;
                word = headAt(word) < word ? headAt(word) : NONE;
            }
            return open;
        }

        private boolean canHold(int head, int word) {
            int kind = kindAt(word);
            if (kindAt(head) == VERB) {
                return kind != JOINER;
            }
            if (kindAt(head) != NOUN || kind == ADVERB || isJoined(head, word)) {
                return false;
            }
            // the second name of a group has no joiner of its own
            return kind == PREPOSITION || kindAt(headAt(head)) != JOINER;
        }

        /** Tells if a noun holds a joiner already; a name is closed by it. */
        private boolean isJoined(int noun, int before) {
            for (int word = noun + 1; word < before; word++) {
                if (kindAt(word) == JOINER && headAt(word) == noun) {
                    return true;
                }
            }
            return false;
        }

        private void pushReading() {
            if (total < codes.length) {
                long code = 0L;
                for (int word = 0; word < size; word++) {
                    code |= (long) (headAt(word) + 1) << (BITS * word);
                }
                codes[total] = code;
                total++;
            }
        }
    }

    /** A number for each part of a sentence: its first word, and the word behind its last one. */
    private static final class Grid {
        private static final int SIDE = MAX_WORDS + 1;

        private final int[] cells = new int[SIDE * SIDE];

        int at(int from, int to) {
            return from >= 0 && from < SIDE && to >= 0 && to < SIDE ? cells[from * SIDE + to] : 0;
        }

        /** For what may be missing: the empty part is one way. */
        int atOrEmpty(int from, int to) {
            return from == to ? 1 : at(from, to);
        }

        void put(int from, int to, int ways) {
            if (from >= 0 && from < SIDE && to >= 0 && to < SIDE) {
                cells[from * SIDE + to] = ways;
            }
        }
    }

    /** In how many ways each part of a sentence is a name, a group and so on: no reading is told for that. */
    private static final class Parts {
        static final int NAME = 0;
        static final int GROUP = 1;
        static final int PHRASE = 2;
        static final int CLAUSE = 3;

        private final Grid names = new Grid();
        private final Grid groups = new Grid();
        private final Grid phrases = new Grid();
        private final Grid clauses = new Grid();
        private final Grid hangings = new Grid();
        /** One or more phrases in a row. */
        private final Grid phraseRows = new Grid();
        /** An object, hangings, or both in this order. */
        private final Grid verbTails = new Grid();

        int ways(int from, int to, int what) {
            if (from >= to) {
                return 0;
            }
            switch (what) {
                case NAME: return names.at(from, to);
                case GROUP: return groups.at(from, to);
                case PHRASE: return phrases.at(from, to);
                case CLAUSE: return clauses.at(from, to);
                default: return hangings.at(from, to);
            }
        }

        /** From the last word on: a part is told from those within it, so they must be told ahead of it. */
        void tell(State state) {
            for (int from = state.size() - 1; from >= 0; from--) {
                for (int to = from + 1; to <= state.size(); to++) {
                    names.put(from, to, nameWays(state, from, to));
                    groups.put(from, to, groupWays(state, from, to));
                    phrases.put(from, to, state.kindAt(from) == PREPOSITION ? groups.at(from + 1, to) : 0);
                    phraseRows.put(from, to, phraseRowWays(from, to));
                    hangings.put(from, to, hangingWays(state, from, to));
                    clauses.put(from, to, clauseWays(state, from, to));
                    verbTails.put(from, to, verbTailWays(state, from, to));
                }
            }
        }

        private int nameWays(State state, int from, int to) {
            switch (state.kindAt(from)) {
                case ADJECTIVE: return names.at(from + 1, to);
                case NOUN: return phraseRows.atOrEmpty(from + 1, to);
                default: return 0;
            }
        }

        private int groupWays(State state, int from, int to) {
            int ways = names.at(from, to);
            for (int middle = from + 1; middle < to; middle++) {
                if (state.kindAt(middle) == JOINER) {
                    ways += names.at(from, middle) * names.at(middle + 1, to);
                }
            }
            return ways;
        }

        private int phraseRowWays(int from, int to) {
            int ways = 0;
            for (int middle = from + 1; middle <= to; middle++) {
                ways += phrases.at(from, middle) * phraseRows.atOrEmpty(middle, to);
            }
            return ways;
        }

        private int hangingWays(State state, int from, int to) {
            int ways = state.kindAt(from) == ADVERB ? hangings.atOrEmpty(from + 1, to) : 0;
            for (int middle = from + 1; middle <= to; middle++) {
                ways += phrases.at(from, middle) * hangings.atOrEmpty(middle, to);
            }
            return ways;
        }

        private int clauseWays(State state, int from, int to) {
            int ways = 0;
            for (int verb = from + 1; verb < to; verb++) {
                if (state.kindAt(verb) == VERB) {
                    ways += groups.at(from, verb) * verbTails.atOrEmpty(verb + 1, to);
                }
            }
            return ways;
        }

        private int verbTailWays(State state, int from, int to) {
            int ways = hangings.at(from, to);
            for (int middle = from + 1; middle <= to; middle++) {
                int object = groups.at(from, middle);
                if (state.kindAt(from) == OPENER) {
                    object += clauses.at(from + 1, middle);
                }
                ways += object * hangings.atOrEmpty(middle, to);
            }
            return ways;
        }
    }

    /** One reading with all that its drawing shows. */
    private static final class Drawing {
        private final int[] kinds = new int[MAX_WORDS];
        private final int[] heads = new int[MAX_WORDS];
        private final int[] ways = new int[MAX_WORDS];
        private final int[] levels = new int[MAX_WORDS];
        private final int[] loads = new int[MAX_WORDS];
        /** The numbers with which the words are read along the lines. */
        private final int[] turns = new int[MAX_WORDS];
        private int size = 0;
        private int turn = 0;

        void trace(State state, long code) {
            size = Math.min(state.size(), MAX_WORDS);
            Arrays.fill(loads, 0);
            int root = NONE;
            for (int word = 0; word < size; word++) {
                int head = Readings.headIn(code, word);
                kinds[word] = state.kindAt(word);
                heads[word] = head;
                ways[word] = wayOf(word, state.kindAt(word), head, state.kindAt(head));
                if (isWord(head)) {
                    loads[head]++;
                } else {
                    root = word;
                }
            }
            for (int word = 0; word < size; word++) {
                levels[word] = levelOf(word);
            }
            turn = 0;
            readAlong(root, 0);
        }

        int property(int word, int what) {
            if (!isWord(word)) {
                return NONE;
            }
            switch (what) {
                case 1: return heads[word];
                case 2: return ways[word];
                case 3: return levels[word] + LEVEL_SHIFT;
                case 4: return loads[word];
                default: return turns[word];
            }
        }

        int wordAtTurn(int wanted) {
            for (int word = 0; word < size; word++) {
                if (turns[word] == wanted) {
                    return word;
                }
            }
            return NONE;
        }

        int height() {
            int lowest = 0;
            int highest = 0;
            for (int word = 0; word < size; word++) {
                lowest = Math.min(lowest, levels[word]);
                highest = Math.max(highest, levels[word]);
            }
            return highest - lowest + 1;
        }

        int wordsOfKind(int kind) {
            int words = 0;
            for (int word = 0; word < size; word++) {
                if (kinds[word] == kind) {
                    words++;
                }
            }
            return words;
        }

        int wordsHeld(int way) {
            int words = 0;
            for (int word = 0; word < size; word++) {
                if (ways[word] == way) {
                    words++;
                }
            }
            return words;
        }

        int greatestLoad() {
            int greatest = 0;
            for (int word = 0; word < size; word++) {
                greatest = Math.max(greatest, loads[word]);
            }
            return greatest;
        }

        private boolean isWord(int word) {
            return word >= 0 && word < size && word < MAX_WORDS;
        }

        private static int wayOf(int word, int kind, int head, int kindOfHead) {
            if (head == NONE) {
                return ROOT;
            }
            switch (kind) {
                case NOUN:
                    if (kindOfHead == VERB) {
                        return word < head ? SUBJECT : OBJECT;
                    }
                    return kindOfHead == JOINER ? BY_DASH : IN_PHRASE;
                case JOINER:
                    return BY_DASH;
                case VERB:
                case OPENER:
                    return ON_STILT;
                default:
                    return ON_SLANT;
            }
        }

        private int levelOf(int word) {
            int level = 0;
            int at = word;
            for (int step = 0; step < MAX_WORDS && isWord(at); step++) {
                level += riseOf(ways[at], kinds[at]);
                at = heads[at];
            }
            return level;
        }

        /** How much higher a word stands than its head. */
        private static int riseOf(int way, int kind) {
            switch (way) {
                case ON_SLANT:
                case IN_PHRASE: return -1;
                case ON_STILT: return kind == OPENER ? 1 : 0;
                default: return 0;
            }
        }

        /**
         * What a word holds is read by ascending numbers, the word itself between what stands ahead of it and
         * what stands behind it: only a subject and adjectives stand ahead of their heads.
         */
        private void readAlong(int word, int depth) {
            if (!isWord(word) || depth > MAX_WORDS) {
                return;
            }
            for (int held = 0; held < word; held++) {
                if (heads[held] == word) {
                    readAlong(held, depth + 1);
                }
            }
            turns[word] = turn;
            turn++;
            for (int held = word + 1; held < size; held++) {
                if (heads[held] == word) {
                    readAlong(held, depth + 1);
                }
            }
        }
    }
}
