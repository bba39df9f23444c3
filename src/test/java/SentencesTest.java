import java.util.List;

/** Sentences, many at a time: the readings told one by one, those told by parts, and the model's. */
public final class SentencesTest extends Slates {
    private static final int ALL_UP_TO = 5;
    private static int most = 0;
    private static int standing = 0;

    public static void main(String[] args) {
        everySentence("");
        readableSentences("", true);
        Check.same("sentences whose kinds stand in an order that can be read", 2502, standing);
        Check.same("the most readings", 42, most);
        Check.end("SentencesTest");
    }

    private static void everySentence(String words) {
        if (!words.isEmpty()) {
            compare(words);
        }
        for (int kind = 0; kind < 7 && words.length() < ALL_UP_TO; kind++) {
            everySentence(words + Model.LETTERS.charAt(kind));
        }
    }

    private static String behind(String words) {
        switch (words.isEmpty() ? 't' : words.charAt(words.length() - 1)) {
            case 'n': return "vdpc";
            case 'v': return "ndpt";
            case 'd': return "dp";
            default: return "n";
        }
    }

    private static boolean stands(String words, boolean verbless) {
        return !verbless && "nvd".indexOf(words.charAt(words.length() - 1)) >= 0;
    }

    private static boolean fits(char letter, boolean verbless) {
        return letter == 'v' ? verbless : letter != 'd' || !verbless;
    }

    /** Adjectives are left out: they make a sentence longer, and give no choice. */
    private static void readableSentences(String words, boolean verbless) {
        if (!words.isEmpty() && stands(words, verbless)) {
            standing++;
            compare(words);
        }
        for (char letter : behind(words).toCharArray()) {
            if (words.length() < 12 && fits(letter, verbless)) {
                readableSentences(words + letter, letter == 't' || letter != 'v' && verbless);
            }
        }
    }

    /** Each reading on an object of its own: no object is used for more calls than are promised. */
    private static void compare(String words) {
        SlantSlate counted = slate(words);
        List<Model.Reading> due = Model.readings(words);
        most = Math.max(most, due.size());
        Check.same(words + " one by one", due.size(), counted.count(1));
        Check.same(words + " by parts", due.size(), counted.count(2));
        for (int rank = 0; rank < due.size(); rank++) {
            SlantSlate slate = slate(words);
            slate.draw(rank);
            for (int word = 0; word < words.length(); word++) {
                Check.same(words + " reading " + rank + " head of " + word,
                    due.get(rank).head[word], slate.wordOf(word, 1));
                Check.same(words + " read along the lines", word, slate.wordOf(word, 5));
            }
            Check.same(words + " written", words.length(), slate.write());
        }
    }
}
