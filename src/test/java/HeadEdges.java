/** Fixed heads, the reading that is drawn, the slate's levels, and promises 5 to 8. */
final class HeadEdges extends Edges {
    private static final int[] NO_WORDS = {-1, 7, LEAST, MOST};

    private HeadEdges() {
    }

    static void run() {
        fixedHeads();
        drawnFirst();
        drawnStays();
        levels();
        heights();
        linesOfReading();
        fixing();
        fixingAnswers();
        fixingRefused();
        loosening();
        drawing();
        drawingRefused();
        flattening();
    }

    private static void fixedHeads() {
        test("Fixed heads", "A word can have a fixed head.", "none, one, all of 12", () -> {
            SlantSlate slate = slate(FULL);
            same("none", 0, slate.count(5));
            slate.fix(0, 1);
            same("one", 1, slate.count(5));
            slate.fix(1, NONE);
            for (int word = 2; word < 11; word++) {
                slate.fix(word, 11);
            }
            slate.fix(11, 1);
            same("all", 12, slate.count(5));
        });
        test("Fixed heads", "The readings that are left are those in which each such word has the head that is fixed",
            "none fixed, one, two, all", () -> {
                SlantSlate slate = slate("nvnpnpn");
                same("none", 5, slate.count(3));
                slate.fix(3, 2);
                same("one", 3, slate.count(3));
                slate.fix(5, 2);
                same("two", 1, slate.count(3));
                same("heads", "1 -1 1 2 3 2 5", row(slate, 1));
                for (int word : new int[] {0, 1, 2, 4, 6}) {
                    slate.fix(word, slate.wordOf(word, 1));
                }
                same("all", "7 1", slate.count(5) + " " + slate.count(3));
            });
    }

    private static void drawnFirst() {
        String sentence = "at first, and behind each add(), change(), wipe(), load(), fix() and loosen(),"
            + " the first one.";
        test("Fixed heads", sentence, "at first", () -> same("drawn", 0, slate("nvnpn").count(4)));
        test("Fixed heads", sentence, "behind add()", () -> {
            SlantSlate slate = slate("nvnpn");
            slate.draw(1);
            slate.add(3);
            same("drawn", "2 0", slate.count(3) + " " + slate.count(4));
        });
        test("Fixed heads", sentence, "behind change()", () -> {
            SlantSlate slate = slate("nvnpn");
            slate.draw(1);
            slate.change(2, 0);
            same("drawn", "2 0", slate.count(3) + " " + slate.count(4));
        });
        test("Fixed heads", sentence, "behind wipe()", () -> {
            SlantSlate slate = slate("nvnpnd");
            slate.draw(1);
            slate.wipe(5);
            same("drawn", "2 0", slate.count(3) + " " + slate.count(4));
        });
        test("Fixed heads", sentence, "behind load()", () -> {
            SlantSlate slate = slate("nvnpn");
            slate.draw(1);
            loadInto(slate, "nvnpn");
            same("drawn", "2 0", slate.count(3) + " " + slate.count(4));
        });
        test("Fixed heads", sentence, "behind fix()", () -> {
            SlantSlate slate = slate("nvnpnpn");
            slate.draw(4);
            slate.fix(3, 2);
            same("drawn", "3 0", slate.count(3) + " " + slate.count(4));
            slate.draw(2);
            slate.fix(3, 2);
            same("drawn behind the same once more", "3 0", slate.count(3) + " " + slate.count(4));
        });
        test("Fixed heads", sentence, "behind loosen()", () -> {
            SlantSlate slate = slate("nvnpnpn");
            slate.fix(3, 2);
            slate.draw(2);
            slate.loosen(3);
            same("drawn", "5 0", slate.count(3) + " " + slate.count(4));
            slate.draw(3);
            slate.loosen(3);
            same("drawn behind one that was loose", "5 0", slate.count(3) + " " + slate.count(4));
        });
    }

    private static void drawnStays() {
        test("Fixed heads", "One of the readings that are left is drawn, by its rank among them, from 0",
            "the least rank, the greatest, none", () -> {
                SlantSlate slate = slate("nvnpnpn");
                slate.fix(3, 2);
                slate.draw(0);
                same("rank 0", "0 1 -1 1 2 3 1 5", slate.count(4) + " " + row(slate, 1));
                slate.draw(2);
                same("rank 2", "2 1 -1 1 2 3 4 5", slate.count(4) + " " + row(slate, 1));
                same("without a reading", NONE, slate("vn").count(4));
            });
        test("Fixed heads", "One of the readings that are left is drawn", "goBack() and undo() bring it back", () -> {
            SlantSlate slate = slate("nvnpnpn");
            slate.draw(3);
            slate.keep(0);
            slate.draw(1);
            slate.goBack(0);
            same("behind goBack()", "3 1 -1 1 2 3 2 5", slate.count(4) + " " + row(slate, 1));
            slate.undo();
            same("behind undo()", "1 1 -1 1 1 3 4 5", slate.count(4) + " " + row(slate, 1));
        });
    }

    private static void levels() {
        level("that of the root is 0", "nv", "20 20");
        level("a subject, an object, and what is held by a dash have the level of the head", "ncnvncn",
            "20 20 20 20 20 20 20");
        level("a subject, an object, and what is held by a dash have the level of the head", "nvtncnvn",
            "20 20 21 21 21 21 21 21");
        level("a subject, an object, and what is held by a dash have the level of the head", "nvpncn",
            "20 20 19 18 18 18");
        level("an opener is 1 above its head, and the verb behind it has the level of the opener", "nvtnvtnvtnvn",
            "20 20 21 21 21 22 22 22 23 23 23 23");
        level("a word on a slant is 1 below its head", "anvd", "19 20 20 19");
        level("a word on a slant is 1 below its head", "nvpan", "20 20 19 17 18");
        level("the noun of a phrase 1 below the preposition", "npnpnpnpnpnv",
            "20 19 18 19 18 19 18 19 18 19 18 20");
        test("The slate", "The level of a word, as it is drawn", "the deepest of 12", () -> {
            SlantSlate slate = slate("nvpnpnpnpnpn");
            slate.draw(41);
            same("levels", "20 20 19 18 17 16 15 14 13 12 11 10", row(slate, 3));
        });
    }

    private static void level(String sentence, String words, String due) {
        test("The slate", sentence, words, () -> same("levels", due, row(slate(words), 3)));
    }

    private static void heights() {
        String sentence = "The height of a reading is how many levels there are from the lowest one of a word"
            + " to the highest one, with both.";
        test("The slate", sentence, "one level", () -> same("nv", 1, slate("nv").draw(0)));
        test("The slate", sentence, "two levels", () -> {
            same("below the root", 2, slate("nvd").draw(0));
            same("the first word alone below the root", 2, slate("anv").draw(0));
            same("above the root", 2, slate("nvtnv").draw(0));
        });
        test("The slate", sentence, "below and above the root", () -> same("nvtnvd", 3, slate("nvtnvd").draw(0)));
        test("The slate", sentence, "an adverb on the upper verb", () ->
            same("nvtnvd", 2, slate("nvtnvd").draw(1)));
        test("The slate", sentence, "the most of 12 words", () ->
            same("nvpnpnpnpnpn", 11, slate("nvpnpnpnpnpn").draw(41)));
    }

    private static void linesOfReading() {
        line("a verb is read behind its subject, and all that is held by that", "ancanvn");
        line("behind the verb its object, and then its hangings, by ascending numbers.", "nvnddpndpnd");
        line("A noun is read behind its adjectives, by ascending numbers, and ahead of its phrases", "aaanpnpnv");
        line("likewise, and of its joiner.", "npnpncnv");
        line("What another word holds is read behind it.", "nvtnvpncnd");
        line("(It gives the sentence.)", "nv");
        line("(It gives the sentence.)", "nvnpnpnpnpnd");
    }

    /** In all readings the words are read in their order, and written so. */
    private static void line(String sentence, String words) {
        test("The slate", sentence, words, () -> {
            StringBuilder due = new StringBuilder("0");
            for (int turn = 1; turn < words.length(); turn++) {
                due.append(" ").append(turn);
            }
            for (int rank = slate(words).count(1) - 1; rank >= 0; rank--) {
                SlantSlate slate = slate(words);
                slate.draw(rank);
                same("reading " + rank, due.toString(), row(slate, 5));
                slate.write();
                slate.load();
                same("reading " + rank + " as a text", words, words(slate));
            }
        });
    }

    private static void fixing() {
        test("Promise 5", "Fixes the head of a word", "the first word, the last, the 12th", () -> {
            SlantSlate slate = calm();
            slate.fix(0, 1);
            slate.fix(6, 5);
            same("fixed", "1 0 0 1 0 0 1", row(slate, 6));
            SlantSlate twelve = slate(FULL);
            twelve.fix(11, 1);
            same("fixed of 12", "0 0 0 0 0 0 0 0 0 0 0 1", row(twelve, 6));
        });
        test("Promise 5", "in place of the one that was.", "another head, the same head", () -> {
            SlantSlate slate = slate("nvnpnpn");
            slate.fix(5, 4);
            same("another one", 2, slate.fix(5, 1));
            same("fixed", 1, slate.count(5));
            same("the same one", 2, slate.fix(5, 1));
            slate.draw(1);
            same("its head", 1, slate.wordOf(5, 1));
        });
        test("Promise 5", "Undoable.", "a head for none, for another one, the same head, the root", () -> {
            undoable("fix(5, 2)", Edges::calm, slate -> slate.fix(5, 2));
            undoable("fix(3, 1)", Edges::calm, slate -> slate.fix(3, 1));
            undoable("fix(3, 2)", Edges::calm, slate -> slate.fix(3, 2));
            undoable("fix(1, NONE)", Edges::calm, slate -> slate.fix(1, NONE));
        });
    }

    private static void fixingAnswers() {
        test("Promise 5", "word: its number", "the first, the last", () -> {
            same("fix(0, 1)", 5, slate("nvnpnpn").fix(0, 1));
            same("fix(6, 5)", 5, slate("nvnpnpn").fix(6, 5));
        });
        test("Promise 5", "head: the number of another word", "the first, the last, the 12th", () -> {
            same("the first", 1, slate("ncnv").fix(1, 0));
            same("the last", 1, slate("anv").fix(1, 2));
            same("the 12th", 42, slate("npnpnpnpnpnv").fix(0, 11));
        });
        test("Promise 5", "NONE: it is the root", "of the root, of another word", () -> {
            SlantSlate slate = slate("nvtnv");
            same("the root", 1, slate.fix(1, NONE));
            same("it is fixed", 1, slate.wordOf(1, 6));
            refused("fix(4, NONE)", () -> slate("nvtnv"), STATE, other -> other.fix(4, NONE));
        });
        test("Promise 5", "Returns how many readings are left.", "one, some, all", () -> {
            same("all", 5, slate("nvnpnpn").fix(1, NONE));
            same("some", 3, slate("nvnpnpn").fix(3, 2));
            same("one", 1, slate("nvnpnpn").fix(5, 2));
            same("42", 42, slate("nvnpnpnpnpnd").fix(11, 1));
            same("beside another one", 1, calm().fix(5, 4));
        });
    }

    private static void fixingRefused() {
        test("Promise 5", "Throws IndexOutOfBoundsException if there is no such word", "just outside, far", () -> {
            for (int word : NO_WORDS) {
                refused("fix(" + word + ", 1)", Edges::busy, RANGE, slate -> slate.fix(word, 1));
                refused("fix(" + word + ", NONE)", Edges::busy, RANGE, slate -> slate.fix(word, NONE));
            }
            refused("fix(12, 1) of 12", Edges::full, RANGE, slate -> slate.fix(12, 1));
            refused("fix(0, NONE) of none", Edges::wordless, RANGE, slate -> slate.fix(0, NONE));
        });
        test("Promise 5", "or head is none of these", "just outside, the word itself, and far", () -> {
            for (int head : new int[] {-2, 7, LEAST, MOST}) {
                refused("fix(3, " + head + ")", Edges::busy, RANGE, slate -> slate.fix(3, head));
            }
            for (int word = 0; word < 7; word++) {
                int asked = word;
                refused("fix(" + word + ", " + word + ")", Edges::busy, RANGE, slate -> slate.fix(asked, asked));
            }
            refused("fix(3, 12) of 12", Edges::full, RANGE, slate -> slate.fix(3, 12));
        });
        test("Promise 5", "Throws IllegalStateException if no reading would be left", "one, and none", () -> {
            same("one", 1, slate("nvnpnpn").fix(5, 2));
            refused("none beside another head", Edges::busy, STATE, slate -> slate.fix(5, 2));
            refused("never a head", Edges::busy, STATE, slate -> slate.fix(0, 2));
            refused("never the root", Edges::busy, STATE, slate -> slate.fix(0, NONE));
            refused("the root never held", Edges::busy, STATE, slate -> slate.fix(1, 0));
            refused("without a reading", Edges::unreadable, STATE, slate -> slate.fix(0, 1));
            refused("without a reading, the root", Edges::unreadable, STATE, slate -> slate.fix(0, NONE));
        });
        test("Exceptions", "the one that is named first in the throws clause is thrown", "promise 5: no word, no head,"
            + " no reading", () -> {
                refused("fix(4, 0)", Edges::unreadable, RANGE, slate -> slate.fix(4, 0));
                refused("fix(0, 4)", Edges::unreadable, RANGE, slate -> slate.fix(0, 4));
                refused("fix(0, -2)", Edges::unreadable, RANGE, slate -> slate.fix(0, -2));
                refused("fix(0, 0)", Edges::unreadable, RANGE, slate -> slate.fix(0, 0));
            });
    }

    private static void loosening() {
        test("Promise 6", "Loosens the head of a word.", "one of two, the last, one that is loose, the root", () -> {
            SlantSlate slate = calm();
            slate.fix(5, 4);
            slate.loosen(3);
            same("one of two", "0 0 0 0 0 1 0", row(slate, 6));
            slate.loosen(0);
            same("one that is loose", "0 0 0 0 0 1 0", row(slate, 6));
            slate.loosen(5);
            same("the last", 0, slate.count(5));
            slate.fix(1, NONE);
            slate.loosen(1);
            same("the root", 0, slate.count(5));
        });
        test("Promise 6", "Undoable.", "one that is fixed, one that is loose, without a reading", () -> {
            undoable("loosen(3)", Edges::calm, slate -> slate.loosen(3));
            undoable("loosen(0)", Edges::calm, slate -> slate.loosen(0));
            undoable("loosen(0) without a reading", Edges::unreadable, slate -> slate.loosen(0));
        });
        test("Promise 6", "word: its number", "the first, the last, the 12th", () -> {
            SlantSlate slate = slate(FULL);
            slate.fix(0, 1);
            slate.fix(11, 1);
            slate.loosen(11);
            same("the 12th", 1, slate.count(5));
            slate.loosen(0);
            same("the first", 0, slate.count(5));
        });
        test("Promise 6", "Returns how many readings are left.", "none, those by another head, all", () -> {
            same("none", 0, unreadable().loosen(3));
            SlantSlate slate = slate("nvnpnpn");
            slate.fix(3, 2);
            slate.fix(5, 1);
            same("those by another head", 3, slate.loosen(5));
            same("the same", 3, slate.loosen(5));
            same("all", 5, slate.loosen(3));
        });
        test("Promise 6", "Throws IndexOutOfBoundsException if there is no such word", "just outside, far", () -> {
            for (int word : NO_WORDS) {
                refused("loosen(" + word + ")", Edges::busy, RANGE, slate -> slate.loosen(word));
            }
            refused("loosen(12) of 12", Edges::full, RANGE, slate -> slate.loosen(12));
            refused("loosen(0) of none", Edges::wordless, RANGE, slate -> slate.loosen(0));
        });
    }

    private static void drawing() {
        test("Promise 7", "Draws a reading.", "the first, the last, the same once more", () -> {
            SlantSlate slate = slate("nvnpnpn");
            slate.draw(4);
            same("the last", "1 -1 1 2 3 4 5", row(slate, 1));
            slate.draw(4);
            same("once more", "1 -1 1 2 3 4 5", row(slate, 1));
            slate.draw(0);
            same("the first", "1 -1 1 1 3 1 5", row(slate, 1));
        });
        test("Promise 7", "Undoable.", "another one, the same", () -> {
            undoable("draw(0)", Edges::calm, slate -> slate.draw(0));
            undoable("draw(2)", Edges::calm, slate -> slate.draw(2));
        });
        test("Promise 7", "rank: its rank among those that are left", "not among all", () -> {
            SlantSlate slate = slate("nvnpnpn");
            slate.fix(3, 2);
            slate.draw(1);
            same("heads", "1 -1 1 2 3 2 5", row(slate, 1));
            same("fixed heads stay", 1, slate.count(5));
        });
        test("Promise 7", "Returns its height.", "of each reading", () -> {
            SlantSlate slate = slate("nvtnvtnvd");
            same("heights", "4 3 3", slate.draw(0) + " " + slate.draw(1) + " " + slate.draw(2));
            slate.fix(8, 4);
            same("of one that is left", 3, slate.draw(0));
        });
    }

    private static void drawingRefused() {
        test("Promise 7", "Throws IndexOutOfBoundsException if there is no such reading", "just outside, far", () -> {
            for (int rank : new int[] {-1, 2, 3, 4, 5, LEAST, MOST}) {
                refused("draw(" + rank + ")", Edges::busy, RANGE, slate -> slate.draw(rank));
            }
            same("draw(41) of 42", 9, slate("nvnpnpnpnpnd").draw(41));
            refused("draw(42) of 42", () -> slate("nvnpnpnpnpnd"), RANGE, slate -> slate.draw(42));
            refused("draw(0) without a reading", Edges::unreadable, RANGE, slate -> slate.draw(0));
            refused("draw(0) without words", Edges::wordless, RANGE, slate -> slate.draw(0));
        });
    }

    private static void flattening() {
        String flattest = "Draws the flattest of the readings that are left: the one with the least height,";
        test("Promise 8", flattest, "the first, one within, the last", () -> {
            same("the first", 0, slate("nvnpnpn").flatten());
            same("one within", 1, slate("nvtnvtnvd").flatten());
            same("the last", 1, slate("nvtnvd").flatten());
        });
        test("Promise 8", flattest, "it is drawn", () -> {
            SlantSlate slate = slate("nvtnvtnvd");
            slate.draw(2);
            slate.flatten();
            same("rank, height, head", "1 3 4", slate.count(4) + " " + slate.count(7) + " " + slate.wordOf(8, 1));
        });
        test("Promise 8", "of several the first one.", "all alike, the last two alike", () -> {
            SlantSlate slate = slate("nvnpn");
            slate.draw(1);
            same("all", "3 3 0", slate.readingOf(0, 0) + " " + slate.readingOf(1, 0) + " " + slate.flatten());
            same("the last two", 1, slate("nvtnvtnvd").flatten());
        });
        test("Promise 8", "Undoable.", "another one, the same", () -> {
            undoable("another one", () -> slate("nvtnvd"), slate -> slate.flatten());
            undoable("the same", () -> slate("nvnpn"), slate -> slate.flatten());
            undoable("beside a fixed head", Edges::calm, slate -> slate.flatten());
        });
        test("Promise 8", "Returns its rank.", "among those that are left, not among all", () -> {
            SlantSlate slate = slate("nvtnvtnvd");
            slate.fix(8, 7);
            same("the only one", 0, slate.flatten());
            same("among all", 2, slate.readingOf(0, 5));
        });
        test("Promise 8", "Throws IllegalStateException if there is no reading", "one, none, no words", () -> {
            same("one", 0, slate("nv").flatten());
            refused("none", Edges::unreadable, STATE, slate -> slate.flatten());
            refused("no words", Edges::wordless, STATE, slate -> slate.flatten());
        });
    }
}
