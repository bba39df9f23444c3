/** The buffer, sentences as texts, and promises 9 to 13. */
final class TextEdges extends Edges {
    private static final String TWENTY = "nvnvnvnvnvnvnvnvnvnv";
    private static final int[] NO_CODES = {32, 127, 0, -1, 256 + 110, LEAST, MOST};

    private TextEdges() {
    }

    static void run() {
        inputText();
        syntaxErrors();
        appending();
        appendingRefused();
        clearing();
        firstErrors();
        loading();
        loadingRefused();
        writing();
        writingRefused();
    }

    private static SlantSlate typed(String text) {
        SlantSlate slate = new SlantSlate();
        type(slate, text);
        return slate;
    }

    private static void inputText() {
        test("Input text", "The buffer has at most 20 characters.", "20, and never 21", () -> {
            SlantSlate slate = typed(TWENTY.substring(1));
            same("the 20th", 20, slate.append('n'));
            same("a 21st", "throws java.lang.IllegalStateException", Check.outcome(() -> slate.append('n')));
            same("length", 20, slate.clearBuffer());
        });
        test("Input text", "A sentence as a text is one to twelve letters of kinds", "0, 1, 12, 13", () -> {
            refused("none", Edges::wordless, ARGUMENT, slate -> slate.load());
            same("one", 0, typed("v").load());
            same("twelve", 1, typed(FULL).load());
            refused("thirteen", () -> typed(FULL + "d"), ARGUMENT, slate -> slate.load());
        });
        for (char letter : Model.LETTERS.toCharArray()) {
            test("Input text", "\"" + letter + "\"", "a letter of a kind", () -> {
                SlantSlate slate = typed("" + letter);
                same("no error", 1, slate.firstError());
                slate.load();
                same("its kind", Model.LETTERS.indexOf(letter), slate.wordOf(0, 0));
            });
        }
    }

    private static void syntaxErrors() {
        String sentence = "a character is a syntax error if no sentence as a text begins with the characters before it"
            + " and this character.";
        test("Input text", sentence, "each code but those of the seven letters", () -> {
            for (int code = 33; code <= 126; code++) {
                SlantSlate slate = new SlantSlate();
                slate.append(code);
                same("code " + code, Model.LETTERS.indexOf(code) < 0 ? 0 : 1, slate.firstError());
            }
        });
        test("Input text", sentence, "the 12th letter, the 13th", () -> {
            same("12", 12, typed("nnnnnnnnnnnn").firstError());
            same("13", 12, typed("nnnnnnnnnnnnn").firstError());
        });
        test("Input text", sentence, "letters that have no reading", () -> {
            same("openers", 12, typed("tttttttttttt").firstError());
            same("a verb ahead", 2, typed("vn").firstError());
        });
        test("Input text", "The buffer is read from left to right", "two characters that are no letters", () ->
            same("the first of them", 1, typed("n!?").firstError()));
    }

    private static void appending() {
        test("Promise 9", "Appends a character to the buffer.", "behind others, behind write()", () -> {
            SlantSlate slate = typed("vn");
            slate.append('t');
            slate.load();
            same("words", "vnt", words(slate));
            SlantSlate written = slate("nv");
            written.write();
            written.append('d');
            written.load();
            same("words behind write()", "nvd", words(written));
        });
        test("Promise 9", "Appends a character to the buffer.", "nothing is saved, nothing else is changed", () ->
            savesNothing("append(33)", Edges::busy, slate -> slate.append(33)));
        test("Promise 9", "code: the character code, 33 to 126", "the least and the greatest", () -> {
            SlantSlate slate = new SlantSlate();
            long empty = -3272683799750754447L;
            same("33", 1, slate.append(33));
            same("33 in the digest", 31 * (empty + 1) + 33, slate.digest());
            same("126", 2, slate.append(126));
            same("both in the digest", 31 * (31 * (empty + 2) + 33) + 126, slate.digest());
        });
        test("Promise 9", "Returns the new length of the buffer.", "1 to 20, and from 1 again", () -> {
            SlantSlate slate = new SlantSlate();
            for (int length = 1; length <= 20; length++) {
                same("length", length, slate.append(110));
            }
            slate.clearBuffer();
            same("behind clearBuffer()", 1, slate.append(110));
            slate.append(118);
            slate.load();
            same("behind load()", 1, slate.append(110));
            slate.write();
            same("behind write()", 3, slate.append(110));
        });
    }

    private static void appendingRefused() {
        test("Promise 9", "Throws IllegalArgumentException if code is not 33 to 126", "just outside, far", () -> {
            for (int code : NO_CODES) {
                refused("append(" + code + ")", Edges::busy, ARGUMENT, slate -> slate.append(code));
                refused("append(" + code + ") to none", Edges::wordless, ARGUMENT, slate -> slate.append(code));
            }
        });
        test("Promise 9", "Throws IllegalStateException if the buffer has 20 characters", "19, 20", () -> {
            same("19", 20, typed(TWENTY.substring(1)).append(126));
            for (int code : new int[] {33, 110, 126}) {
                refused("append(" + code + ") to 20", Edges::full, STATE, slate -> slate.append(code));
            }
        });
        test("Exceptions", "the one that is named first in the throws clause is thrown", "promise 9: no code, no room",
            () -> {
                for (int code : NO_CODES) {
                    refused("append(" + code + ") to 20", Edges::full, ARGUMENT, slate -> slate.append(code));
                }
            });
    }

    private static void clearing() {
        test("Promise 10", "Clears the buffer.", "nothing is left of it", () -> {
            SlantSlate slate = typed(TWENTY);
            slate.clearBuffer();
            same("as a new object", new SlantSlate().digest(), slate.digest());
        });
        test("Promise 10", "Clears the buffer.", "nothing is saved, nothing else is changed", () ->
            savesNothing("clearBuffer()", Edges::busy, slate -> slate.clearBuffer()));
        test("Promise 10", "Returns the length that it had.", "0, 1, 20, and 0 again", () -> {
            same("0", 0, new SlantSlate().clearBuffer());
            same("1", 1, typed("x").clearBuffer());
            SlantSlate slate = typed(TWENTY);
            same("20", 20, slate.clearBuffer());
            same("0 again", 0, slate.clearBuffer());
            SlantSlate written = slate(FULL);
            written.write();
            same("12 behind write()", 12, written.clearBuffer());
        });
    }

    private static void firstErrors() {
        test("Promise 11", "Finds the first syntax error of the buffer.", "nothing is changed", () -> {
            SlantSlate slate = busy();
            slate.firstError();
            same("all of it", depth(busy()), depth(slate));
        });
        test("Promise 11", "Returns the index of the first character that is a syntax error", "at each of 20 places",
            () -> {
                for (int index = 0; index < 20; index++) {
                    String text = TWENTY.substring(0, index) + "x" + TWENTY.substring(index + 1);
                    same(text, Math.min(index, 12), typed(text).firstError());
                }
            });
        test("Promise 11", "Returns the index of the first character that is a syntax error", "of 13 and 20 letters",
            () -> {
                same("13", 12, typed(TWENTY.substring(7)).firstError());
                same("20", 12, typed(TWENTY).firstError());
            });
        test("Promise 11", "the length of the buffer if there is none.", "0, 1, 12 characters", () -> {
            same("0", 0, new SlantSlate().firstError());
            same("1", 1, typed("n").firstError());
            same("12", 12, typed(TWENTY.substring(8)).firstError());
        });
    }

    private static void loading() {
        test("Promise 12", "Makes the sentence what the buffer tells", "1 letter and 12, for more words and for fewer",
            () -> {
                SlantSlate slate = slate(FULL);
                loadInto(slate, "t");
                same("1", "t", words(slate));
                loadInto(slate, "nvadpctnvadp");
                same("12", "nvadpctnvadp", words(slate));
            });
        test("Promise 12", "and clears the buffer.", "12 characters", () -> {
            SlantSlate slate = typed(FULL);
            slate.load();
            same("length", 0, slate.clearBuffer());
        });
        test("Promise 12", "No head is fixed then.", "also if the sentence stays", () -> {
            SlantSlate slate = calm();
            loadInto(slate, "nvnpnpn");
            same("fixed, left", "0 5", slate.count(5) + " " + slate.count(3));
        });
        test("Promise 12", "Undoable.", "another sentence, the same, the first one", () -> {
            for (String text : new String[] {"nv", "nvnpnpn", FULL}) {
                undoneLoad(calm(), calm(), text);
            }
            undoneLoad(new SlantSlate(), new SlantSlate(), "n");
        });
        test("Promise 12", "Returns how many readings the sentence has then.", "none, one, 42", () -> {
            same("none", 0, typed("n").load());
            same("one", 1, typed("nv").load());
            same("42", 42, typed("nvnpnpnpnpnd").load());
            same("all, not those that were left", 5, loadInto(calm(), "nvnpnpn"));
        });
    }

    /** The buffer is not brought back: it stays cleared. */
    private static void undoneLoad(SlantSlate slate, SlantSlate twin, String text) {
        loadInto(slate, text);
        twin.clearBuffer();
        int before = twin.count(8);
        same(text + " saves one state", before + 1, slate.count(8));
        same(text + " leaves those that were saved", before, slate.undo());
        same(text + " is undone", depth(twin), depth(slate));
    }

    private static void loadingRefused() {
        String sentence = "Throws IllegalArgumentException if the buffer does not tell a sentence as a text";
        test("Promise 12", sentence, "no character", () -> {
            refused("of a new object", Edges::wordless, ARGUMENT, slate -> slate.load());
            refused("behind load()", () -> slate("nv"), ARGUMENT, slate -> slate.load());
        });
        test("Promise 12", sentence, "13 letters, 20 letters", () -> {
            refused("13", () -> typed(TWENTY.substring(7)), ARGUMENT, slate -> slate.load());
            refused("20", Edges::full, ARGUMENT, slate -> slate.load());
        });
        test("Promise 12", sentence, "an error at the first place, at the last, and behind 12 letters", () -> {
            for (String text : new String[] {"x", "xnv", "nvx", "nvaaaaaaaaax", FULL + "x", "N"}) {
                refused(text, () -> typed(text), ARGUMENT, slate -> slate.load());
            }
            refused("nv~", Edges::busy, ARGUMENT, slate -> slate.load());
        });
    }

    private static void writing() {
        test("Promise 13", "Writes the sentence, read along the lines of the reading that is drawn, as a text",
            "each reading of 12 words", () -> {
                for (int rank = 0; rank < 42; rank += 41) {
                    SlantSlate slate = slate("nvnpnpnpnpnd");
                    slate.draw(rank);
                    slate.write();
                    slate.load();
                    same("words", "nvnpnpnpnpnd", words(slate));
                }
            });
        test("Promise 13", "Writes the sentence", "the letter of each kind", () -> {
            SlantSlate slate = new SlantSlate();
            for (int kind : new int[] {2, 0, 1, 6, 0, 1, 4, 0, 5, 0, 3}) {
                slate.add(kind);
            }
            slate.write();
            long written = slate.digest();
            type(slate, "anvtnvpncnd");
            same("the same as typed", slate.digest(), written);
        });
        test("Promise 13", "into the buffer, in place of what was there.", "20 characters, none", () -> {
            SlantSlate slate = slate("nv");
            type(slate, TWENTY);
            slate.write();
            same("of 20", 2, slate.clearBuffer());
            slate.write();
            same("of none", 2, slate.clearBuffer());
            slate.write();
            slate.write();
            same("twice", 2, slate.clearBuffer());
        });
        test("Promise 13", "Writes the sentence", "nothing is saved, nothing else is changed", () ->
            savesNothing("write()", Edges::busy, slate -> slate.write()));
        test("Promise 13", "Returns the length of the buffer then.", "2 at the least, 12 at the most", () -> {
            same("2", 2, slate("nv").write());
            same("12", 12, slate(FULL).write());
            same("of a busy one", 7, busy().write());
        });
    }

    private static void writingRefused() {
        test("Promise 13", "Throws IllegalStateException if there is no reading", "words, no words, a buffer", () -> {
            refused("words", Edges::unreadable, STATE, slate -> slate.write());
            refused("no words", Edges::wordless, STATE, slate -> slate.write());
            refused("20 characters", () -> typed(TWENTY), STATE, slate -> slate.write());
        });
        test("Exceptions", "A call that throws an exception changes nothing (the buffer stays as it is, too).",
            "write() and load()", () -> {
                SlantSlate slate = unreadable();
                Check.outcome(() -> slate.write());
                same("behind write()", 2, slate.clearBuffer());
                type(slate, "nvx");
                Check.outcome(() -> slate.load());
                same("behind load()", 3, slate.clearBuffer());
            });
    }
}
