import java.util.function.Consumer;

/** Snapshots, saved states, and promises 14 to 16. */
final class SavedEdges extends Edges {
    private static final int[] NO_SLOTS = {-1, 2, LEAST, MOST};

    private SavedEdges() {
    }

    static void run() {
        slots();
        whatIsUndoable();
        whatSavesNothing();
        sixStates();
        keeping();
        goingBack();
        goingBackRefused();
        undoing();
    }

    private static void slots() {
        test("Input text", "There are two slots", "each with a snapshot of its own", () -> {
            SlantSlate slate = slate("n");
            slate.keep(0);
            slate.add(1);
            slate.keep(1);
            slate.goBack(0);
            same("slot 0", "n", words(slate));
            slate.goBack(1);
            same("slot 1", "nv", words(slate));
        });
        test("Input text", "a snapshot is all but the buffer, the slots and the saved states.", "what is in it", () -> {
            SlantSlate slate = calm();
            String before = row(slate, 1) + " / " + row(slate, 6) + " / " + numbers(slate).substring(0, 15);
            slate.keep(0);
            loadInto(slate, "tt");
            slate.goBack(0);
            same("heads, fixed heads, numbers", before,
                row(slate, 1) + " / " + row(slate, 6) + " / " + numbers(slate).substring(0, 15));
        });
        test("Input text", "a snapshot is all but the buffer, the slots and the saved states.", "what is not", () -> {
            SlantSlate slate = slate("nv");
            type(slate, "abc");
            slate.keep(0);
            slate.add(3);
            slate.add(3);
            slate.keep(1);
            slate.append('d');
            slate.goBack(0);
            same("saved states", 4, slate.count(8));
            same("buffer", 4, slate.clearBuffer());
            same("the other slot", 4, slate.goBack(1));
        });
    }

    private static void whatIsUndoable() {
        undoableCall("add()", slate -> slate.add(0));
        undoableCall("change()", slate -> slate.change(0, 1));
        undoableCall("wipe()", slate -> slate.wipe(0));
        undoableCall("fix()", slate -> slate.fix(5, 2));
        undoableCall("loosen()", slate -> slate.loosen(3));
        undoableCall("draw()", slate -> slate.draw(1));
        undoableCall("flatten()", slate -> slate.flatten());
        undoableCall("goBack()", slate -> slate.goBack(1));
        String unchanged = "(also if it changes nothing)";
        test("Input text", unchanged, "promise 3", () ->
            undoable("change()", Edges::calm, slate -> slate.change(0, 0)));
        test("Input text", unchanged, "promise 5", () ->
            undoable("fix()", SavedEdges::onceFixed, slate -> slate.fix(3, 2)));
        test("Input text", unchanged, "promise 6", () ->
            undoable("loosen()", Edges::calm, slate -> slate.loosen(0)));
        test("Input text", unchanged, "promise 7", () ->
            undoable("draw()", Edges::calm, slate -> slate.draw(2)));
        test("Input text", unchanged, "promise 8", () ->
            undoable("flatten()", SavedEdges::onceFixed, SlantSlate::flatten));
        test("Input text", unchanged, "promise 15", () ->
            undoable("goBack()", SavedEdges::onceFixed, slate -> slate.goBack(0)));
        test("Input text", unchanged, "promise 12", () -> {
            SlantSlate slate = slate("nv");
            loadInto(slate, "nv");
            same("saved", 2, slate.count(8));
            slate.undo();
            same("undone", "nv 1", words(slate) + " " + slate.count(8));
        });
    }

    private static void undoableCall(String name, Consumer<SlantSlate> call) {
        test("Input text", "Each method that is marked \"undoable\" and does not throw an exception saves the state"
            + " from before it", name, () -> undoable(name, Edges::calm, call));
    }

    /** The first reading of those left is drawn, and it is the flattest; slot 0 has all of it. */
    private static SlantSlate onceFixed() {
        SlantSlate slate = slate("nvnpnpn");
        slate.fix(3, 2);
        slate.keep(0);
        return slate;
    }

    private static void whatSavesNothing() {
        String sentence = "Each method that is marked \"undoable\"";
        test("Input text", sentence, "no look saves a state, or changes anything", () -> {
            SlantSlate slate = busy();
            for (int what = 0; what <= 4; what++) {
                slate.part(0, 7, what);
                slate.readingOf(1, what);
                slate.wordOf(6, what);
                slate.count(what);
            }
            slate.ifFixed(3, 2);
            slate.question();
            slate.next();
            slate.sureShare();
            slate.digest();
            slate.firstError();
            same("all of it", depth(busy()), depth(slate));
        });
        test("Input text", sentence, "append(), clearBuffer(), write() and keep() save none", () -> {
            savesNothing("append()", Edges::calm, slate -> slate.append(33));
            savesNothing("clearBuffer()", Edges::calm, slate -> slate.clearBuffer());
            savesNothing("write()", Edges::calm, slate -> slate.write());
            SlantSlate slate = calm();
            slate.keep(0);
            same("keep()", 3, slate.count(8));
        });
        test("Input text", sentence, "a call that throws saves none", () -> {
            SlantSlate slate = calm();
            Check.outcome(() -> slate.add(7));
            Check.outcome(() -> slate.wipe(7));
            Check.outcome(() -> slate.fix(5, 0));
            Check.outcome(() -> slate.draw(3));
            Check.outcome(() -> slate.goBack(2));
            Check.outcome(() -> slate.load());
            same("all of it", depth(calm()), depth(slate));
        });
        String but = "all, also what is counted so far, but the buffer, the slots and the saved states.";
        test("Input text", but, "the buffer and the slots stay behind undo()", () -> {
            SlantSlate slate = slate("nv");
            slate.add(3);
            slate.keep(0);
            slate.append(33);
            slate.undo();
            same("buffer", 1, slate.clearBuffer());
            same("slot", 3, slate.goBack(0));
        });
        test("Input text", but, "all numbers come back", () -> {
            SlantSlate slate = calm();
            String before = numbers(slate);
            slate.loosen(3);
            slate.wipe(0);
            slate.undo();
            slate.undo();
            same("numbers", before, numbers(slate));
        });
    }

    private static void sixStates() {
        test("Input text", "At most 6 states are saved", "5, 6, and 6 still", () -> {
            SlantSlate slate = new SlantSlate();
            for (int call = 1; call <= 9; call++) {
                slate.add(0);
                same("saved behind " + call + " calls", Math.min(call, 6), slate.count(8));
            }
        });
        test("Input text", "the oldest one is dropped first.", "behind 6, 7 and 12 calls", () -> {
            for (int calls : new int[] {6, 7, 12}) {
                SlantSlate slate = new SlantSlate();
                for (int call = 1; call <= calls; call++) {
                    slate.add(call % 7);
                }
                String all = words(slate);
                for (int left = 5; left >= 0; left--) {
                    same("left", left, slate.undo());
                    same("words", all.substring(0, calls - 6 + left), words(slate));
                }
                same("no more", "throws java.lang.IllegalStateException", Check.outcome(() -> slate.undo()));
            }
        });
        test("Input text", "the oldest one is dropped first.", "again, when some were restored in between", () -> {
            SlantSlate slate = new SlantSlate();
            for (int kind : new int[] {0, 1, 2, 3, 4, 5, 6, 0}) {
                slate.add(kind);
            }
            slate.undo();
            slate.undo();
            for (int kind : new int[] {1, 1, 1}) {
                slate.add(kind);
            }
            same("words", "nvadpcvvv 6", words(slate) + " " + slate.count(8));
            for (int left = 5; left >= 0; left--) {
                slate.undo();
            }
            same("the oldest", "nva", words(slate));
        });
    }

    private static void keeping() {
        test("Promise 14", "Takes a snapshot", "later calls don't change it", () -> {
            SlantSlate slate = calm();
            slate.keep(1);
            long kept = slate.digest();
            slate.wipe(0);
            slate.change(0, 6);
            slate.goBack(1);
            slate.undo();
            slate.undo();
            slate.undo();
            same("the state", kept, slate.digest());
            slate.goBack(1);
            same("the snapshot", "nvnpnpn 1 2", words(slate) + " " + slate.count(5) + " " + slate.count(4));
        });
        test("Promise 14", "in place of the one in the slot.", "the other one stays", () -> {
            SlantSlate slate = slate("n");
            slate.keep(0);
            slate.keep(1);
            slate.add(1);
            slate.keep(0);
            same("slot 0", 2, slate.goBack(0));
            same("slot 1", 1, slate.goBack(1));
        });
        test("Promise 14", "slot: 0 or 1", "both, in the digest too", () -> {
            SlantSlate first = slate("nv");
            long none = first.digest();
            first.keep(0);
            same("slot 0", none + 961, first.digest());
            first.keep(1);
            same("both", none + 961 + 31, first.digest());
            SlantSlate second = slate("nv");
            second.keep(1);
            same("slot 1", none + 31, second.digest());
        });
        test("Promise 14", "Returns how many words the sentence has.", "0, 1, 12", () -> {
            same("0", 0, new SlantSlate().keep(0));
            same("1", 1, slate("c").keep(1));
            same("12", 12, slate(FULL).keep(0));
        });
        test("Promise 14", "Throws IllegalArgumentException if slot is out of range", "just outside, far", () -> {
            for (int slot : NO_SLOTS) {
                refused("keep(" + slot + ")", Edges::busy, ARGUMENT, slate -> slate.keep(slot));
                refused("keep(" + slot + ") of a new one", Edges::wordless, ARGUMENT, slate -> slate.keep(slot));
            }
        });
    }

    private static void goingBack() {
        test("Promise 15", "Goes back to a snapshot, which stays.", "twice, and behind later calls", () -> {
            SlantSlate slate = busy();
            for (int time = 1; time <= 2; time++) {
                same("words", 7, slate.goBack(0));
                same("heads", "1 -1 1 2 3 1 5", row(slate, 1));
                same("fixed", "0 0 0 1 0 0 0", row(slate, 6));
                slate.loosen(3);
                slate.wipe(0);
            }
        });
        test("Promise 15", "Undoable.", "to another state, to the same, with six states saved", () -> {
            undoable("goBack(0)", Edges::calm, slate -> slate.goBack(0));
            undoable("goBack(1)", Edges::calm, slate -> slate.goBack(1));
            undoable("goBack(0) from no reading", Edges::unreadable, slate -> slate.goBack(0));
            SlantSlate slate = busy();
            slate.goBack(0);
            same("saved", 6, slate.count(8));
            slate.undo();
            same("undone", "1 -1 1 1 3 4 5", row(slate, 1));
        });
        test("Promise 15", "slot: 0 or 1", "each alone", () -> {
            for (int slot = 0; slot <= 1; slot++) {
                SlantSlate slate = slate("nv");
                slate.keep(slot);
                slate.wipe(0);
                slate.goBack(slot);
                same("words of slot " + slot, "nv", words(slate));
            }
        });
        test("Promise 15", "Returns how many words the sentence has then.", "0, 1, 12", () -> {
            SlantSlate slate = new SlantSlate();
            slate.keep(0);
            slate.add(0);
            slate.keep(1);
            same("0", 0, slate.goBack(0));
            same("1", 1, slate.goBack(1));
            SlantSlate twelve = full();
            twelve.wipe(0);
            same("12", 12, twelve.goBack(0));
        });
    }

    private static void goingBackRefused() {
        test("Promise 15", "Throws IllegalArgumentException if slot is out of range", "just outside, far", () -> {
            for (int slot : NO_SLOTS) {
                refused("goBack(" + slot + ")", Edges::busy, ARGUMENT, slate -> slate.goBack(slot));
            }
        });
        test("Promise 15", "Throws IllegalStateException if there is no snapshot in it", "one empty, both", () -> {
            refused("the second", Edges::full, STATE, slate -> slate.goBack(1));
            refused("the first", SavedEdges::keptSecond, STATE, slate -> slate.goBack(0));
            refused("of both the first", Edges::wordless, STATE, slate -> slate.goBack(0));
            refused("of both the second", () -> slate(FULL), STATE, slate -> slate.goBack(1));
        });
        test("Promise 15", "Throws IllegalStateException if there is no snapshot in it", "one without words", () -> {
            SlantSlate slate = new SlantSlate();
            slate.keep(1);
            same("goBack(1)", 0, slate.goBack(1));
        });
        test("Exceptions", "the one that is named first in the throws clause is thrown", "promise 15: no slot, none"
            + " filled", () -> {
                for (int slot : NO_SLOTS) {
                    refused("goBack(" + slot + ")", Edges::wordless, ARGUMENT, slate -> slate.goBack(slot));
                }
            });
    }

    private static SlantSlate keptSecond() {
        SlantSlate slate = slate("nv");
        slate.keep(1);
        return slate;
    }

    private static void undoing() {
        test("Promise 16", "Restores the latest saved state", "of several, and step by step", () -> {
            SlantSlate slate = slate("nvnpnpn");
            slate.fix(3, 2);
            slate.draw(2);
            slate.wipe(6);
            slate.undo();
            same("before wipe()", "nvnpnpn 1 2", words(slate) + " " + slate.count(5) + " " + slate.count(4));
            slate.undo();
            same("before draw()", "nvnpnpn 1 0", words(slate) + " " + slate.count(5) + " " + slate.count(4));
            slate.undo();
            same("before fix()", "nvnpnpn 0 0", words(slate) + " " + slate.count(5) + " " + slate.count(4));
            slate.undo();
            same("before load()", 0, slate.count(0));
        });
        test("Promise 16", "and drops it.", "it is not saved itself", () -> {
            SlantSlate slate = slate("nv");
            slate.add(3);
            slate.undo();
            same("saved", 1, slate.count(8));
            slate.add(0);
            slate.undo();
            slate.undo();
            same("words", 0, slate.count(0));
        });
        test("Promise 16", "Returns how many saved states are left.", "5 to 0", () -> {
            SlantSlate slate = busy();
            for (int left = 5; left >= 0; left--) {
                same("left", left, slate.undo());
            }
        });
        test("Promise 16", "Throws IllegalStateException if there is none", "at first, at last", () -> {
            refused("of a new object", Edges::wordless, STATE, slate -> slate.undo());
            refused("behind the last one", () -> undone(busy()), STATE, slate -> slate.undo());
        });
    }

    private static SlantSlate undone(SlantSlate slate) {
        for (int left = slate.count(8); left > 0; left--) {
            slate.undo();
        }
        return slate;
    }
}
