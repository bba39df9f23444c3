/** What the tests share: slates made of texts, and told as texts. */
abstract class Slates {
    static final Class<?> RANGE = IndexOutOfBoundsException.class;
    static final Class<?> ARGUMENT = IllegalArgumentException.class;
    static final Class<?> STATE = IllegalStateException.class;
    static final int NONE = SlantSlate.NONE;
    static final int MOST = Integer.MAX_VALUE;
    static final int LEAST = Integer.MIN_VALUE;
    /** 12 words, and one reading. */
    static final String FULL = "nvaaaaaaaaan";

    static void same(String what, Object due, Object got) {
        Check.same(what, due, got);
    }

    static SlantSlate slate(String words) {
        SlantSlate slate = new SlantSlate();
        if (!words.isEmpty()) {
            loadInto(slate, words);
        }
        return slate;
    }

    static int loadInto(SlantSlate slate, String words) {
        type(slate, words);
        return slate.load();
    }

    /** In place of what the buffer had. */
    static void type(SlantSlate slate, String text) {
        slate.clearBuffer();
        for (char letter : text.toCharArray()) {
            slate.append(letter);
        }
    }

    static String words(SlantSlate slate) {
        StringBuilder text = new StringBuilder();
        for (int word = 0; word < slate.count(0); word++) {
            text.append("nvadpct".charAt(slate.wordOf(word, 0)));
        }
        return text.toString();
    }

    /** One property of all words, with a blank between any two. */
    static String row(SlantSlate slate, int what) {
        StringBuilder text = new StringBuilder();
        for (int word = 0; word < slate.count(0); word++) {
            text.append(word == 0 ? "" : " ").append(slate.wordOf(word, what));
        }
        return text.toString();
    }

    /** All properties of a reading. */
    static String reading(SlantSlate slate, int rank) {
        StringBuilder text = new StringBuilder();
        for (int what = 0; what <= 5; what++) {
            text.append(what == 0 ? "" : " ").append(slate.readingOf(rank, what));
        }
        return text.toString();
    }

    /** All that count() tells. */
    static String numbers(SlantSlate slate) {
        StringBuilder text = new StringBuilder();
        for (int what = 0; what <= 8; what++) {
            text.append(what == 0 ? "" : " ").append(slate.count(what));
        }
        return text.toString();
    }

    /** All that part() tells of a part. */
    static String ways(SlantSlate slate, int from, int to) {
        StringBuilder text = new StringBuilder();
        for (int what = 0; what <= 4; what++) {
            text.append(what == 0 ? "" : " ").append(slate.part(from, to, what));
        }
        return text.toString();
    }

    /** How many readings, and the heads of each; no object is used for more calls than are promised. */
    static String readings(String words) {
        int readings = slate(words).count(1);
        StringBuilder text = new StringBuilder().append(readings);
        for (int rank = 0; rank < readings; rank++) {
            SlantSlate slate = slate(words);
            slate.draw(rank);
            text.append(" | ").append(row(slate, 1));
        }
        return text.toString();
    }
}
