import java.util.function.BiConsumer;

/** Promises 17 to 20: the properties of words and readings, the numbers, and the parts. */
final class LookEdges extends Edges {
    private static final String THREE = "nvtnvtnvd";

    private LookEdges() {
    }

    static void run() {
        looksChangeNothing();
        wholeRows();
        wordProperties();
        wordCounts();
        wordsWithoutReading();
        wordsRefused();
        readingProperties();
        readingsRefused();
        sentenceNumbers();
        slateNumbers();
        numbersRefused();
        parts();
        partLimits();
        partsRefused();
    }

    private static void looksChangeNothing() {
        look("Promise 17", "Returns a property of a word.", 7, (slate, what) -> slate.wordOf(6, what));
        look("Promise 18", "Returns a property of a reading.", 5, (slate, what) -> slate.readingOf(0, what));
        look("Promise 19", "Returns a number.", 8, (slate, what) -> slate.count(what));
        look("Promise 20", "Returns how many names, groups and so on", 4, (slate, what) -> slate.part(0, 7, what));
    }

    private static void look(String section, String sentence, int last, BiConsumer<SlantSlate, Integer> call) {
        test(section, sentence, "nothing is changed", () -> {
            SlantSlate slate = busy();
            for (int what = 0; what <= last; what++) {
                call.accept(slate, what);
            }
            same("all of it", depth(busy()), depth(slate));
        });
    }

    private static void wholeRows() {
        test("Promise 17", "Returns the property.", "all of a word, by each number", () -> {
            SlantSlate slate = calm();
            StringBuilder text = new StringBuilder();
            for (int what = 0; what <= 7; what++) {
                text.append(slate.wordOf(5, what)).append(' ');
            }
            same("the second preposition", "4 4 3 17 1 5 0 3 ", text.toString());
        });
        test("Promise 18", "Returns the property.", "all of a reading, by each number", () ->
            same("the last that is left", "5 1 2 0 2 4", reading(calm(), 2)));
        test("Promise 19", "Returns the number.", "all, by each number", () -> {
            same("of a calm one", "7 5 5 3 2 1 1 5 3", numbers(calm()));
            same("without a reading", "4 0 0 0 -1 0 0 0 3", numbers(unreadable()));
        });
    }

    private static void wordProperties() {
        test("Promise 17", "0: its kind", "the least, the greatest", () -> {
            SlantSlate slate = slate("nt");
            same("0", 0, slate.wordOf(0, 0));
            same("6", 6, slate.wordOf(1, 0));
        });
        test("Promise 17", "1: its head, NONE as the root", "the first word, the 12th, none", () -> {
            same("the first", 0, slate("ncnv").wordOf(1, 1));
            same("the 12th", 11, slate("npnpnpnpnpnv").wordOf(0, 1));
            same("none", NONE, slate("nv").wordOf(1, 1));
        });
        test("Promise 17", "2: how it is held, 0 to 6", "each of them", () -> {
            same("but an object", "3 1 0 5 1 5 3 6 4 4 3", row(slate("anvtnvpncnd"), 2));
            same("an object", "1 0 2", row(slate("nvn"), 2));
        });
        test("Promise 17", "3: its level, plus 20", "the lowest and the highest of 12 words", () -> {
            SlantSlate low = slate("nvpnpnpnpnpn");
            low.draw(41);
            same("the lowest", 10, low.wordOf(11, 3));
            same("the root", 20, low.wordOf(1, 3));
            same("the highest", 23, slate("nvtnvtnvtnvn").wordOf(11, 3));
        });
        test("Promise 17", "5: the number with which it is read along the lines, from 0", "the first, the 12th", () -> {
            SlantSlate slate = slate("nvnpnpnpnpnd");
            same("the first", 0, slate.wordOf(0, 5));
            same("the 12th", 11, slate.wordOf(11, 5));
        });
        test("Promise 17", "6: 1 if its head is fixed, otherwise 0", "fixed, as the root, loose, loosened", () -> {
            SlantSlate slate = slate("nvnpn");
            slate.fix(3, 1);
            slate.fix(1, NONE);
            same("fixed", "0 1 0 1 0", row(slate, 6));
            slate.loosen(3);
            same("loosened", "0 1 0 0 0", row(slate, 6));
        });
        test("Promise 17", "1 to 5 in the reading that is drawn", "two readings", () -> {
            SlantSlate slate = slate("nvtnvd");
            same("the first", "1 3 19 0 5", wordAsDrawn(slate, 5));
            same("its head", "-1 0 20 3 1", wordAsDrawn(slate, 1));
            slate.draw(1);
            same("the second", "4 3 20 0 5", wordAsDrawn(slate, 5));
            same("its head then", "-1 0 20 2 1", wordAsDrawn(slate, 1));
        });
    }

    private static String wordAsDrawn(SlantSlate slate, int word) {
        StringBuilder text = new StringBuilder();
        for (int what = 1; what <= 5; what++) {
            text.append(what == 1 ? "" : " ").append(slate.wordOf(word, what));
        }
        return text.toString();
    }

    private static void wordCounts() {
        test("Promise 17", "4: how many words it holds", "none, one, eleven", () -> {
            SlantSlate slate = slate("nvdddddddddd");
            same("none", 0, slate.wordOf(11, 4));
            same("eleven", 11, slate.wordOf(1, 4));
            same("one", 1, slate("nv").wordOf(1, 4));
        });
        test("Promise 17", "7: how many heads it has in the readings that are left", "one, two, five", () -> {
            SlantSlate slate = slate("nvnpnpnpnpn");
            same("from first to last", "1 1 1 2 1 3 1 4 1 5 1", row(slate, 7));
            slate.fix(3, 1);
            same("beside a fixed head", "1 1 1 1 1 2 1 3 1 4 1", row(slate, 7));
            slate.fix(9, 8);
            same("of the last as it is fixed", 1, slate.wordOf(9, 7));
        });
        test("Promise 17", "(the root counts as one of these)", "the root, loose and fixed", () -> {
            SlantSlate slate = slate("nvnpn");
            same("loose", 1, slate.wordOf(1, 7));
            slate.fix(1, NONE);
            same("fixed", 1, slate.wordOf(1, 7));
        });
    }

    private static void wordsWithoutReading() {
        test("Promise 17", "NONE without one", "properties 1 to 5, and no others", () -> {
            SlantSlate slate = unreadable();
            same("kinds", "0 0 4 0", row(slate, 0));
            for (int what = 1; what <= 5; what++) {
                same("property " + what, "-1 -1 -1 -1", row(slate, what));
            }
            same("fixed", "0 0 0 0", row(slate, 6));
            same("heads", "0 0 0 0", row(slate, 7));
        });
        test("Promise 17", "NONE without one", "behind a reading that was drawn", () -> {
            SlantSlate slate = slate("nvn");
            slate.change(1, 0);
            same("head", NONE, slate.wordOf(0, 1));
            slate.undo();
            same("head again", 1, slate.wordOf(0, 1));
        });
    }

    private static void wordsRefused() {
        test("Promise 17", "word: its number", "the first and the last", () -> {
            for (int what = 0; what <= 7; what++) {
                int asked = what;
                for (int word = 0; word <= 6; word += 6) {
                    int place = word;
                    String told = Check.outcome(() -> busy().wordOf(place, asked));
                    same("word " + word + ", property " + what, false, told.startsWith("throws"));
                }
            }
        });
        test("Promise 17", "Throws IndexOutOfBoundsException if there is no such word", "just outside, far", () -> {
            for (int word : new int[] {-1, 7, LEAST, MOST}) {
                refused("wordOf(" + word + ", 0)", Edges::busy, RANGE, slate -> slate.wordOf(word, 0));
                refused("wordOf(" + word + ", 7)", Edges::busy, RANGE, slate -> slate.wordOf(word, 7));
            }
            refused("wordOf(12, 1) of 12", Edges::full, RANGE, slate -> slate.wordOf(12, 1));
            refused("wordOf(0, 0) of none", Edges::wordless, RANGE, slate -> slate.wordOf(0, 0));
        });
        test("Promise 17", "Throws IllegalArgumentException if what is not 0 to 7", "just outside, far", () -> {
            for (int what : new int[] {-1, 8, LEAST, MOST}) {
                refused("wordOf(0, " + what + ")", Edges::busy, ARGUMENT, slate -> slate.wordOf(0, what));
                refused("without a reading, " + what, Edges::unreadable, ARGUMENT, slate -> slate.wordOf(3, what));
            }
        });
        test("Exceptions", "the one that is named first in the throws clause is thrown", "promise 17: no word, no"
            + " property", () -> {
                refused("wordOf(7, 8)", Edges::busy, RANGE, slate -> slate.wordOf(7, 8));
                refused("wordOf(-1, -1)", Edges::busy, RANGE, slate -> slate.wordOf(-1, -1));
                refused("wordOf(0, 8)", Edges::wordless, RANGE, slate -> slate.wordOf(0, 8));
            });
    }

    private static void readingProperties() {
        test("Promise 18", "0: its height", "the least and the greatest of 12 words", () -> {
            same("1", 1, slate("nv").readingOf(0, 0));
            same("11", 11, slate("nvpnpnpnpnpn").readingOf(41, 0));
            same("of each", "4 3 3", properties(THREE, 0));
        });
        test("Promise 18", "1: its clauses", "one, four", () -> {
            same("one", 1, slate("nvn").readingOf(0, 1));
            same("four", 4, slate("nvtnvtnvtnv").readingOf(0, 1));
        });
        test("Promise 18", "2: words on slants (held so)", "none, ten, not the noun of a phrase", () -> {
            same("none", 0, slate("nvtncnvn").readingOf(0, 2));
            same("adverbs", 10, slate("nvdddddddddd").readingOf(0, 2));
            same("adjectives", 10, slate("aaaaaaaaaanv").readingOf(0, 2));
            same("a phrase", 1, slate("nvpn").readingOf(0, 2));
        });
        test("Promise 18", "3: joiners", "none, three", () -> {
            same("none", 0, slate("nvn").readingOf(0, 3));
            same("three", 3, slate("ncnvncnpncnd").readingOf(0, 3));
        });
        test("Promise 18", "4: the greatest number of words that one word holds", "one, eleven, as read", () -> {
            same("one", 1, slate("nv").readingOf(0, 4));
            same("five by the first word", 5, slate("npnpnpnpnpnv").readingOf(0, 4));
            same("eleven", 11, slate("nvdddddddddd").readingOf(0, 4));
            same("of each", "4 3 3 2 2", properties("nvnpnpn", 4));
        });
        test("Promise 18", "5: its rank among all readings of the sentence", "first, last, of some left", () -> {
            same("of each", "0 1 2", properties(THREE, 5));
            SlantSlate slate = slate("nvnpnpn");
            slate.fix(3, 2);
            same("the first that is left", 2, slate.readingOf(0, 5));
            same("the last that is left", 4, slate.readingOf(2, 5));
            same("the last of 42", 41, slate("nvnpnpnpnpnd").readingOf(41, 5));
        });
        test("Promise 18", "rank: its rank among those that are left", "another one than is drawn", () -> {
            SlantSlate slate = slate(THREE);
            slate.draw(2);
            same("height", 4, slate.readingOf(0, 0));
            slate.fix(8, 4);
            same("of the one that is left", "3 3 1 0 3 1", reading(slate, 0));
        });
    }

    private static String properties(String words, int what) {
        SlantSlate slate = slate(words);
        StringBuilder text = new StringBuilder();
        for (int rank = 0; rank < slate.count(3); rank++) {
            text.append(rank == 0 ? "" : " ").append(slate.readingOf(rank, what));
        }
        return text.toString();
    }

    private static void readingsRefused() {
        test("Promise 18", "Throws IndexOutOfBoundsException if there is no such reading", "just outside, far", () -> {
            for (int rank : new int[] {-1, 2, 4, 5, LEAST, MOST}) {
                refused("readingOf(" + rank + ", 0)", Edges::busy, RANGE, slate -> slate.readingOf(rank, 0));
                refused("readingOf(" + rank + ", 5)", Edges::busy, RANGE, slate -> slate.readingOf(rank, 5));
            }
            same("the last of 42", 9, slate("nvnpnpnpnpnd").readingOf(41, 0));
            refused("behind 42", () -> slate("nvnpnpnpnpnd"), RANGE, slate -> slate.readingOf(42, 0));
            refused("without a reading", Edges::unreadable, RANGE, slate -> slate.readingOf(0, 0));
            refused("without words", Edges::wordless, RANGE, slate -> slate.readingOf(0, 0));
        });
        test("Promise 18", "Throws IllegalArgumentException if what is not 0 to 5", "just outside, far", () -> {
            for (int what : new int[] {-1, 6, LEAST, MOST}) {
                refused("readingOf(0, " + what + ")", Edges::busy, ARGUMENT, slate -> slate.readingOf(0, what));
            }
        });
        test("Exceptions", "the one that is named first in the throws clause is thrown", "promise 18: no reading, no"
            + " property", () -> {
                refused("readingOf(2, 6)", Edges::busy, RANGE, slate -> slate.readingOf(2, 6));
                refused("readingOf(-1, -1)", Edges::busy, RANGE, slate -> slate.readingOf(-1, -1));
                refused("readingOf(0, 6)", Edges::wordless, RANGE, slate -> slate.readingOf(0, 6));
            });
    }

    private static void sentenceNumbers() {
        test("Promise 19", "0: words", "none, one, 12", () -> {
            same("none", 0, new SlantSlate().count(0));
            same("one", 1, slate("d").count(0));
            same("12", 12, slate(FULL).count(0));
        });
        numberOfReadings("1: readings of the sentence, one by one", 1);
        numberOfReadings("2: the same, told by parts of the sentence", 2);
        test("Promise 19", "3: readings that are left", "none, one, 42", () -> {
            same("none", 0, slate("vn").count(3));
            SlantSlate slate = slate("nvnpnpnpnpnd");
            same("42", 42, slate.count(3));
            slate.fix(9, 8);
            slate.fix(7, 6);
            slate.fix(5, 4);
            slate.fix(3, 2);
            same("one", 1, slate.count(3));
        });
        test("Promise 19", "4: the rank of the one that is drawn, NONE without one", "first, last, none", () -> {
            SlantSlate slate = slate("nvnpnpnpnpnd");
            same("the first", 0, slate.count(4));
            slate.draw(41);
            same("the last", 41, slate.count(4));
            slate.wipe(1);
            same("none", NONE, slate.count(4));
            same("without words", NONE, new SlantSlate().count(4));
        });
    }

    private static void numberOfReadings(String sentence, int what) {
        test("Promise 19", sentence, "none, one, 42", () -> {
            same("without words", 0, new SlantSlate().count(what));
            same("none", 0, slate("vn").count(what));
            same("one", 1, slate("nv").count(what));
            same("42", 42, slate("nvnpnpnpnpnd").count(what));
        });
        test("Promise 19", sentence, "all of them beside a fixed head", () -> same("readings", 5, busy().count(what)));
    }

    private static void slateNumbers() {
        test("Promise 19", "5: words whose head is fixed", "none, the root, 12", () -> {
            SlantSlate slate = slate(FULL);
            same("none", 0, slate.count(5));
            slate.fix(1, NONE);
            same("the root", 1, slate.count(5));
            for (int word = 0; word < 12; word++) {
                slate.fix(word, slate.wordOf(word, 1));
            }
            same("12", 12, slate.count(5));
        });
        test("Promise 19", "6: words that have more than one head in the readings that are left", "0, 1, 4", () -> {
            same("without words", 0, new SlantSlate().count(6));
            same("without a reading", 0, slate("vn").count(6));
            same("none", 0, slate("nvn").count(6));
            same("one", 1, slate("nvnpn").count(6));
            SlantSlate slate = slate("nvnpnpnpnpn");
            same("four", 4, slate.count(6));
            slate.fix(3, 2);
            same("beside a fixed head", 3, slate.count(6));
        });
        test("Promise 19", "7: the height of the reading that is drawn, 0 without one", "0, 1, 11", () -> {
            same("without words", 0, new SlantSlate().count(7));
            same("without a reading", 0, slate("vn").count(7));
            same("1", 1, slate("nv").count(7));
            SlantSlate slate = slate("nvpnpnpnpnpn");
            same("of the first", 3, slate.count(7));
            slate.draw(41);
            same("11", 11, slate.count(7));
        });
        test("Promise 19", "8: saved states", "none, five, six, and no more", () -> {
            SlantSlate slate = new SlantSlate();
            same("none", 0, slate.count(8));
            for (int call = 1; call <= 5; call++) {
                slate.add(0);
            }
            same("five", 5, slate.count(8));
            slate.add(0);
            same("six", 6, slate.count(8));
            slate.add(0);
            same("no more", 6, slate.count(8));
        });
    }

    private static void numbersRefused() {
        test("Promise 19", "Throws IllegalArgumentException if what is not 0 to 8", "just outside, far", () -> {
            for (int what : new int[] {-1, 9, LEAST, MOST}) {
                refused("count(" + what + ")", Edges::busy, ARGUMENT, slate -> slate.count(what));
                refused("count(" + what + ") of a new one", Edges::wordless, ARGUMENT, slate -> slate.count(what));
            }
        });
    }

    private static void parts() {
        part("0: a name", 0, "n 1, an 1, npn 1, npnpn 2, a 0, na 0, ncn 0, nn 0, pn 0, aaaaaaaaaaan 1");
        part("1: a group", 1, "n 1, ncn 1, npncn 2, ncnpn 1, npncnpn 3, ncncn 0, cn 0, nc 0, nv 0");
        part("2: a phrase", 2, "pn 1, pncn 1, pnpn 1, pnpnpn 2, p 0, pd 0, n 0, pnd 0, pncncn 0");
        part("3: a clause", 3, "nv 1, nvnpn 2, nvtnv 1, nvtnvd 2, v 0, n 0, tnv 0, nvt 0, dnv 0, nvnv 0");
        part("4: one or more hangings", 4, "d 1, dd 1, pn 1, pnd 1, dpn 1, pnpn 2, pnpnpn 5, n 0, p 0, dn 0, tnv 0");
    }

    /** Each part alone, and among others. */
    private static void part(String sentence, int what, String list) {
        for (String row : list.split(", ")) {
            String words = row.split(" ")[0];
            int due = Integer.parseInt(row.split(" ")[1]);
            test("Promise 20", sentence, words, () -> {
                same("alone", due, slate(words).part(0, words.length(), what));
                if (words.length() <= 10) {
                    same("within others", due, slate("c" + words + "t").part(1, 1 + words.length(), what));
                }
            });
        }
    }

    private static void partLimits() {
        test("Promise 20", "from: the first word", "the first of 12, the last of 12", () -> {
            SlantSlate slate = slate("nvdddddddddd");
            same("part(0, 1)", "1 1 0 0 0", ways(slate, 0, 1));
            same("part(0, 12)", "0 0 0 1 0", ways(slate, 0, 12));
            same("part(11, 12)", "0 0 0 0 1", ways(slate, 11, 12));
            same("part(2, 12)", "0 0 0 0 1", ways(slate, 2, 12));
        });
        test("Promise 20", "to: the word behind the last one, greater than from", "one word more, as many", () -> {
            same("part(2, 3)", 1, slate("nvn").part(2, 3, 0));
            refused("part(2, 2)", () -> slate("nvn"), RANGE, slate -> slate.part(2, 2, 0));
            refused("part(2, 1)", () -> slate("nvn"), RANGE, slate -> slate.part(2, 1, 0));
        });
        test("Promise 20", "Returns in how many ways it is that, whole.", "the most of 12 words", () -> {
            same("a name", 42, slate("anpnpnpnpnpn").part(0, 12, 0));
            same("a group", 42, slate("anpnpnpnpnpn").part(0, 12, 1));
            same("a phrase", 42, slate("pnpnpnpnpnpn").part(0, 12, 2));
            same("a clause", 42, slate("nvnpnpnpnpnd").part(0, 12, 3));
            same("hangings", 132, slate("pnpnpnpnpnpn").part(0, 12, 4));
        });
        test("Promise 20", "Returns in how many ways it is that, whole.", "fixed heads don't matter", () ->
            same("the clause", 5, busy().part(0, 7, 3)));
        test("Promise 20", "Returns how many names, groups and so on a part of the sentence can be.",
            "of words that were wiped away", () -> {
                SlantSlate slate = slate("nvnpn");
                slate.wipe(4);
                same("what is left", "0 0 0 0 0", ways(slate, 0, 4));
                refused("part(0, 5)", () -> wiped(), RANGE, wiped -> wiped.part(0, 5, 3));
            });
    }

    private static SlantSlate wiped() {
        SlantSlate slate = slate("nvnpn");
        slate.wipe(4);
        return slate;
    }

    private static void partsRefused() {
        test("Promise 20", "Throws IndexOutOfBoundsException if there are no such words", "just outside, far", () -> {
            int[][] parts = {{-1, 1}, {-1, 0}, {0, 8}, {6, 8}, {7, 8}, {7, 7}, {0, 0}, {0, -1}, {3, 2}, {LEAST, 7},
                {LEAST, LEAST}, {0, MOST}, {MOST, LEAST}, {MOST, MOST}, {LEAST, MOST}, {0, LEAST}};
            for (int[] part : parts) {
                refused("part(" + part[0] + ", " + part[1] + ", 0)", Edges::busy, RANGE,
                    slate -> slate.part(part[0], part[1], 0));
            }
            refused("part(0, 13, 3) of 12", Edges::full, RANGE, slate -> slate.part(0, 13, 3));
            refused("part(0, 1, 0) of none", Edges::wordless, RANGE, slate -> slate.part(0, 1, 0));
            refused("part(0, 0, 0) of none", Edges::wordless, RANGE, slate -> slate.part(0, 0, 0));
        });
        test("Promise 20", "Throws IllegalArgumentException if what is not 0 to 4", "just outside, far", () -> {
            for (int what : new int[] {-1, 5, LEAST, MOST}) {
                refused("part(0, 7, " + what + ")", Edges::busy, ARGUMENT, slate -> slate.part(0, 7, what));
                refused("part(6, 7, " + what + ")", Edges::busy, ARGUMENT, slate -> slate.part(6, 7, what));
            }
        });
        test("Exceptions", "the one that is named first in the throws clause is thrown", "promise 20: no words, no kind"
            + " of part", () -> {
                refused("part(0, 8, 5)", Edges::busy, RANGE, slate -> slate.part(0, 8, 5));
                refused("part(-1, 7, -1)", Edges::busy, RANGE, slate -> slate.part(-1, 7, -1));
                refused("part(3, 3, 5)", Edges::busy, RANGE, slate -> slate.part(3, 3, 5));
                refused("part(0, 0, 5)", Edges::wordless, RANGE, slate -> slate.part(0, 0, 5));
            });
    }
}
