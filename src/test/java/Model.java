import java.util.ArrayList;
import java.util.Arrays;
import java.util.List;

/**
 * The document once more, told in another way than in the class: readings are built as trees from the rules of
 * the grammar, then sorted; nothing is kept between calls but the state.
 */
final class Model {
    static final String LETTERS = "nvadpct";
    private static final int NONE = -1;

    /** A part of a sentence that is a name, a group and so on in one way; top is held from outside. */
    private static final class Piece {
        final int top;
        final int[] head = new int[12];
        final int[] way = new int[12];

        Piece(int top) {
            this.top = top;
            Arrays.fill(head, NONE);
        }

        /** This piece with another one held by one of its words. */
        Piece holding(int word, Piece other, int how) {
            return joined(top, word, other, how);
        }

        Piece joined(int newTop, int word, Piece other, int how) {
            Piece piece = new Piece(newTop);
            for (int i = 0; i < 12; i++) {
                piece.head[i] = Math.max(head[i], other.head[i]);
                piece.way[i] = Math.max(way[i], other.way[i]);
            }
            piece.head[other.top] = word;
            piece.way[other.top] = how;
            return piece;
        }
    }

    /** The rules of the grammar, each as a list of all pieces that a part of the words can be. */
    static final class Grammar {
        final String words;

        Grammar(String words) {
            this.words = words;
        }

        boolean is(int word, char letter) {
            return word < words.length() && words.charAt(word) == letter;
        }

        List<Piece> name(int from, int to) {
            List<Piece> pieces = new ArrayList<>();
            int noun = from;
            while (noun < to && is(noun, 'a')) {
                noun++;
            }
            if (noun >= to || !is(noun, 'n')) {
                return pieces;
            }
            Piece bare = new Piece(noun);
            for (int a = from; a < noun; a++) {
                bare = bare.holding(noun, new Piece(a), 3);
            }
            hang(bare, noun, noun + 1, to, false, pieces);
            return pieces;
        }

        /** Hangs phrases (and adverbs) from there on to the end on a word, in all ways. */
        void hang(Piece piece, int word, int from, int to, boolean adverbs, List<Piece> into) {
            if (from == to) {
                into.add(piece);
                return;
            }
            if (adverbs && is(from, 'd')) {
                hang(piece.holding(word, new Piece(from), 3), word, from + 1, to, true, into);
            }
            for (int end = from + 1; end <= to; end++) {
                for (Piece phrase : phrase(from, end)) {
                    hang(piece.holding(word, phrase, 3), word, end, to, adverbs, into);
                }
            }
        }

        List<Piece> phrase(int from, int to) {
            List<Piece> pieces = new ArrayList<>();
            if (is(from, 'p')) {
                for (Piece group : group(from + 1, to)) {
                    pieces.add(new Piece(from).holding(from, group, 6));
                }
            }
            return pieces;
        }

        List<Piece> group(int from, int to) {
            List<Piece> pieces = new ArrayList<>(name(from, to));
            for (int joiner = from; joiner < to; joiner++) {
                if (is(joiner, 'c')) {
                    for (Piece first : name(from, joiner)) {
                        for (Piece second : name(joiner + 1, to)) {
                            Piece dash = new Piece(joiner).holding(joiner, second, 4);
                            pieces.add(first.holding(first.top, dash, 4));
                        }
                    }
                }
            }
            return pieces;
        }

        List<Piece> object(int from, int to) {
            List<Piece> pieces = new ArrayList<>(group(from, to));
            if (is(from, 't')) {
                for (Piece clause : clause(from + 1, to)) {
                    pieces.add(new Piece(from).holding(from, clause, 5));
                }
            }
            return pieces;
        }

        List<Piece> clause(int from, int to) {
            List<Piece> pieces = new ArrayList<>();
            for (int verb = from; verb < to; verb++) {
                if (is(verb, 'v')) {
                    for (Piece subject : group(from, verb)) {
                        Piece base = new Piece(verb).holding(verb, subject, 1);
                        hang(base, verb, verb + 1, to, true, pieces);
                        for (int end = verb + 2; end <= to; end++) {
                            for (Piece object : object(verb + 1, end)) {
                                int how = is(object.top, 't') ? 5 : 2;
                                hang(base.holding(verb, object, how), verb, end, to, true, pieces);
                            }
                        }
                    }
                }
            }
            return pieces;
        }

        List<Piece> hangings(int from, int to) {
            List<Piece> pieces = new ArrayList<>();
            hang(new Piece(0), 0, from, to, true, pieces);
            return pieces;
        }
    }

    /** A reading with what follows from its heads. */
    static final class Reading {
        final String words;
        final int[] head;
        final int[] way;

        Reading(String words, int[] head, int[] way) {
            this.words = words;
            this.head = Arrays.copyOf(head, words.length());
            this.way = Arrays.copyOf(way, words.length());
        }

        int level(int word) {
            if (head[word] == NONE) {
                return 0;
            }
            int above = level(head[word]);
            switch (words.charAt(word)) {
                case 'a':
                case 'd':
                case 'p': return above - 1;
                case 't': return above + 1;
                case 'n': return way[word] == 6 ? above - 1 : above;
                default: return above;
            }
        }

        int height() {
            int low = 0;
            int high = 0;
            for (int word = 0; word < head.length; word++) {
                low = Math.min(low, level(word));
                high = Math.max(high, level(word));
            }
            return high - low + 1;
        }

        int load(int word) {
            int load = 0;
            for (int held : head) {
                load += held == word ? 1 : 0;
            }
            return load;
        }

        int greatestLoad() {
            int greatest = 0;
            for (int word = 0; word < head.length; word++) {
                greatest = Math.max(greatest, load(word));
            }
            return greatest;
        }

        int letters(char letter) {
            return (int) words.chars().filter(c -> c == letter).count();
        }

        int slants() {
            return (int) Arrays.stream(way).filter(w -> w == 3).count();
        }

        List<Integer> line() {
            List<Integer> line = new ArrayList<>();
            for (int word = 0; word < head.length; word++) {
                if (head[word] == NONE) {
                    readFrom(word, line);
                }
            }
            return line;
        }

        private void readHeld(int word, String kinds, int how, List<Integer> line) {
            for (int held = 0; held < head.length; held++) {
                if (head[held] == word && kinds.indexOf(words.charAt(held)) >= 0 && (how < 0 || way[held] == how)) {
                    readFrom(held, line);
                }
            }
        }

        private void readFrom(int word, List<Integer> line) {
            switch (words.charAt(word)) {
                case 'v':
                    readHeld(word, "n", 1, line);
                    line.add(word);
                    readHeld(word, "n", 2, line);
                    readHeld(word, "t", -1, line);
                    readHeld(word, "dp", -1, line);
                    break;
                case 'n':
                    readHeld(word, "a", -1, line);
                    line.add(word);
                    readHeld(word, "p", -1, line);
                    readHeld(word, "c", -1, line);
                    break;
                default:
                    line.add(word);
                    readHeld(word, LETTERS, -1, line);
                    break;
            }
        }
    }

    private static final class State {
        String words = "";
        Integer[] fixed = new Integer[0];
        int drawn = 0;

        State copy() {
            State copy = new State();
            copy.words = words;
            copy.fixed = fixed.clone();
            copy.drawn = drawn;
            return copy;
        }
    }

    private State state = new State();
    private final List<State> saved = new ArrayList<>();
    private final State[] slots = new State[2];
    private String buffer = "";
    private String toldWords = null;
    private List<Reading> told = null;

    static List<Reading> readings(String words) {
        List<Reading> readings = new ArrayList<>();
        for (Piece piece : new Grammar(words).clause(0, words.length())) {
            readings.add(new Reading(words, piece.head, piece.way));
        }
        readings.sort((one, two) -> Arrays.compare(one.head, two.head));
        return readings;
    }

    private List<Reading> all() {
        if (!state.words.equals(toldWords)) {
            toldWords = state.words;
            told = readings(state.words);
        }
        return told;
    }

    private List<Reading> left(Integer[] fixed) {
        List<Reading> left = new ArrayList<>();
        for (Reading reading : all()) {
            boolean fits = true;
            for (int word = 0; word < fixed.length; word++) {
                fits &= fixed[word] == null || fixed[word] == reading.head[word];
            }
            if (fits) {
                left.add(reading);
            }
        }
        return left;
    }

    private List<Reading> left() {
        return left(state.fixed);
    }

    private List<Reading> leftWith(int word, int head) {
        Integer[] fixed = state.fixed.clone();
        fixed[word] = head;
        return left(fixed);
    }

    private int size() {
        return state.words.length();
    }

    private void save() {
        saved.add(state.copy());
        if (saved.size() > 6) {
            saved.remove(0);
        }
    }

    private void needKind(int kind) {
        if (kind < 0 || kind > 6) {
            throw new IllegalArgumentException();
        }
    }

    private void needWord(int word) {
        if (word < 0 || word >= size()) {
            throw new IndexOutOfBoundsException();
        }
    }

    private void needHead(int word, int head) {
        if (head < NONE || head >= size() || head == word) {
            throw new IndexOutOfBoundsException();
        }
    }

    private void needAsked(int what, int last) {
        if (what < 0 || what > last) {
            throw new IllegalArgumentException();
        }
    }

    private int begin(String words) {
        save();
        state.words = words;
        state.fixed = new Integer[words.length()];
        state.drawn = 0;
        return all().size();
    }

    int add(int kind) {
        needKind(kind);
        if (size() == 12) {
            throw new IllegalStateException();
        }
        return begin(state.words + LETTERS.charAt(kind));
    }

    int change(int word, int kind) {
        needWord(word);
        needKind(kind);
        return begin(state.words.substring(0, word) + LETTERS.charAt(kind) + state.words.substring(word + 1));
    }

    int wipe(int word) {
        needWord(word);
        return begin(state.words.substring(0, word) + state.words.substring(word + 1));
    }

    int fix(int word, int head) {
        needWord(word);
        needHead(word, head);
        if (leftWith(word, head).isEmpty()) {
            throw new IllegalStateException();
        }
        save();
        state.fixed[word] = head;
        state.drawn = 0;
        return left().size();
    }

    int loosen(int word) {
        needWord(word);
        save();
        state.fixed[word] = null;
        state.drawn = 0;
        return left().size();
    }

    int draw(int rank) {
        if (rank < 0 || rank >= left().size()) {
            throw new IndexOutOfBoundsException();
        }
        save();
        state.drawn = rank;
        return left().get(rank).height();
    }

    int flatten() {
        List<Reading> left = left();
        if (left.isEmpty()) {
            throw new IllegalStateException();
        }
        int best = 0;
        for (int rank = 1; rank < left.size(); rank++) {
            if (left.get(rank).height() < left.get(best).height()) {
                best = rank;
            }
        }
        save();
        state.drawn = best;
        return best;
    }

    int append(int code) {
        if (code < 33 || code > 126) {
            throw new IllegalArgumentException();
        }
        if (buffer.length() == 20) {
            throw new IllegalStateException();
        }
        buffer += (char) code;
        return buffer.length();
    }

    int clearBuffer() {
        int length = buffer.length();
        buffer = "";
        return length;
    }

    int firstError() {
        int good = 0;
        while (good < buffer.length() && buffer.substring(0, good + 1).matches("[nvadpct]{1,12}")) {
            good++;
        }
        return good;
    }

    int load() {
        if (!buffer.matches("[nvadpct]{1,12}")) {
            throw new IllegalArgumentException();
        }
        int readings = begin(buffer);
        buffer = "";
        return readings;
    }

    int write() {
        if (left().isEmpty()) {
            throw new IllegalStateException();
        }
        StringBuilder text = new StringBuilder();
        for (int word : left().get(state.drawn).line()) {
            text.append(state.words.charAt(word));
        }
        buffer = text.toString();
        return buffer.length();
    }

    int keep(int slot) {
        if (slot != 0 && slot != 1) {
            throw new IllegalArgumentException();
        }
        slots[slot] = state.copy();
        return size();
    }

    int goBack(int slot) {
        if (slot != 0 && slot != 1) {
            throw new IllegalArgumentException();
        }
        if (slots[slot] == null) {
            throw new IllegalStateException();
        }
        save();
        state = slots[slot].copy();
        return size();
    }

    int undo() {
        if (saved.isEmpty()) {
            throw new IllegalStateException();
        }
        state = saved.remove(saved.size() - 1);
        return saved.size();
    }

    int wordOf(int word, int what) {
        needWord(word);
        needAsked(what, 7);
        if (what == 0) {
            return LETTERS.indexOf(state.words.charAt(word));
        }
        if (what == 6) {
            return state.fixed[word] == null ? 0 : 1;
        }
        if (what == 7) {
            return heads(word);
        }
        if (left().isEmpty()) {
            return NONE;
        }
        Reading drawn = left().get(state.drawn);
        switch (what) {
            case 1: return drawn.head[word];
            case 2: return drawn.way[word];
            case 3: return drawn.level(word) + 20;
            case 4: return drawn.load(word);
            default: return drawn.line().indexOf(word);
        }
    }

    private int heads(int word) {
        return (int) left().stream().mapToInt(reading -> reading.head[word]).distinct().count();
    }

    int readingOf(int rank, int what) {
        if (rank < 0 || rank >= left().size()) {
            throw new IndexOutOfBoundsException();
        }
        needAsked(what, 5);
        Reading reading = left().get(rank);
        switch (what) {
            case 0: return reading.height();
            case 1: return reading.letters('v');
            case 2: return reading.slants();
            case 3: return reading.letters('c');
            case 4: return reading.greatestLoad();
            default: return all().indexOf(reading);
        }
    }

    int count(int what) {
        needAsked(what, 8);
        switch (what) {
            case 0: return size();
            case 1:
            case 2: return all().size();
            case 3: return left().size();
            case 4: return left().isEmpty() ? NONE : state.drawn;
            case 5: return (int) Arrays.stream(state.fixed).filter(head -> head != null).count();
            case 6: return unsure().size();
            case 7: return left().isEmpty() ? 0 : left().get(state.drawn).height();
            default: return saved.size();
        }
    }

    private List<Integer> unsure() {
        List<Integer> unsure = new ArrayList<>();
        for (int word = 0; word < size(); word++) {
            if (heads(word) > 1) {
                unsure.add(word);
            }
        }
        return unsure;
    }

    int part(int from, int to, int what) {
        if (from < 0 || to > size() || from >= to) {
            throw new IndexOutOfBoundsException();
        }
        needAsked(what, 4);
        Grammar grammar = new Grammar(state.words);
        switch (what) {
            case 0: return grammar.name(from, to).size();
            case 1: return grammar.group(from, to).size();
            case 2: return grammar.phrase(from, to).size();
            case 3: return grammar.clause(from, to).size();
            default: return grammar.hangings(from, to).size();
        }
    }

    int ifFixed(int word, int head) {
        needWord(word);
        needHead(word, head);
        return leftWith(word, head).size();
    }

    int question() {
        int best = NONE;
        int fewest = 1000;
        for (int word : unsure()) {
            int most = 0;
            for (Reading reading : left()) {
                most = Math.max(most, leftWith(word, reading.head[word]).size());
            }
            if (most < fewest) {
                fewest = most;
                best = word;
            }
        }
        return best;
    }

    int next() {
        int mask = 0;
        for (int kind = 0; kind < 7 && size() < 12; kind++) {
            if (!readings(state.words + LETTERS.charAt(kind)).isEmpty()) {
                mask += 1 << kind;
            }
        }
        return mask;
    }

    double sureShare() {
        if (size() == 0) {
            return 1.0;
        }
        if (left().isEmpty()) {
            return 0.0;
        }
        return (size() - unsure().size()) / (double) size();
    }

    long digest() {
        List<Long> values = new ArrayList<>();
        for (int what = 0; what <= 8; what++) {
            values.add((long) count(what));
        }
        for (int word = 0; word < size(); word++) {
            for (int what = 0; what <= 7; what++) {
                values.add((long) wordOf(word, what));
            }
        }
        for (int rank = 0; rank < Math.min(10, left().size()); rank++) {
            for (int what = 0; what <= 5; what++) {
                values.add((long) readingOf(rank, what));
            }
        }
        for (int word = 0; word < size(); word++) {
            for (int what = 0; what <= 4; what++) {
                values.add((long) part(0, word + 1, what));
            }
        }
        values.add((long) question());
        values.add((long) next());
        values.add(Double.doubleToLongBits(sureShare()));
        values.add(slots[0] == null ? 0L : 1L);
        values.add(slots[1] == null ? 0L : 1L);
        values.add((long) buffer.length());
        for (char code : buffer.toCharArray()) {
            values.add((long) code);
        }
        long hash = 3407;
        for (long value : values) {
            hash = 31 * hash + value;
        }
        return hash;
    }
}
