/** Each promise by answers that were worked out by hand: ordinary ones, the edges, and wrong inputs. */
public final class PromiseTest extends Slates {
    public static void main(String[] args) {
        newObject();
        adding();
        changing();
        wiping();
        fixing();
        fixingRefused();
        loosening();
        drawing();
        flattening();
        appending();
        clearing();
        firstErrors();
        loading();
        readingsByTheRules();
        loadingRefused();
        writing();
        keeping();
        goingBack();
        undoing();
        undoingBeyondSix();
        wordProperties();
        wordPropertiesWithOpener();
        levels();
        wordPropertiesWithoutReading();
        readingProperties();
        counts();
        partsOfASentence();
        partsRefused();
        ifFixed();
        questions();
        nextKinds();
        shares();
        digests();
        Check.end("PromiseTest");
    }

    private static void newObject() {
        SlantSlate slate = new SlantSlate();
        same("1: words", 0, slate.count(0));
        same("1: readings", 0, slate.count(1));
        same("1: drawn", NONE, slate.count(4));
        same("1: saved states", 0, slate.count(8));
        same("1: buffer", 0, slate.clearBuffer());
        Check.refused("1: slot 0", slate, STATE, () -> slate.goBack(0));
        Check.refused("1: slot 1", slate, STATE, () -> slate.goBack(1));
    }

    private static void adding() {
        SlantSlate slate = new SlantSlate();
        int[] kinds = {0, 1, 0, 4, 0, 4, 0};
        int[] readings = {0, 1, 1, 0, 2, 0, 5};
        for (int i = 0; i < kinds.length; i++) {
            same("2: readings with " + (i + 1) + " words", readings[i], slate.add(kinds[i]));
        }
        same("2: words", "nvnpnpn", words(slate));
        Check.refused("2: kind -1", slate, ARGUMENT, () -> slate.add(-1));
        Check.refused("2: kind 7", slate, ARGUMENT, () -> slate.add(7));
        slate.fix(3, 2);
        slate.draw(1);
        same("2: with an adverb", 5, slate.add(3));
        same("2: no head is fixed", 0, slate.count(5));
        same("2: the first one is drawn", 0, slate.count(4));
        slate.undo();
        same("2: undone", "nvnpnpn 1 1", words(slate) + " " + slate.wordOf(3, 6) + " " + slate.count(4));
        SlantSlate full = slate(FULL);
        Check.refused("2: a 13th word", full, STATE, () -> full.add(0));
        Check.refused("2: kind first", full, ARGUMENT, () -> full.add(7));
        full.wipe(2);
        same("2: a 12th word", 1, full.add(3));
        SlantSlate all = new SlantSlate();
        for (int kind = 0; kind <= 6; kind++) {
            all.add(kind);
        }
        same("2: all kinds", "nvadpct", words(all));
    }

    private static void changing() {
        SlantSlate slate = slate("nvnpn");
        slate.fix(3, 1);
        same("3: readings", 0, slate.change(1, 0));
        same("3: words", "nnnpn", words(slate));
        same("3: no head is fixed", 0, slate.count(5));
        same("3: back again", 2, slate.change(1, 1));
        slate.draw(1);
        same("3: to the same kind", 2, slate.change(4, 0));
        same("3: the first one is drawn", 0, slate.count(4));
        same("3: it is saved", 6, slate.count(8));
        slate.undo();
        same("3: undone", 1, slate.count(4));
        Check.refused("3: word -1", slate, RANGE, () -> slate.change(-1, 0));
        Check.refused("3: word 5", slate, RANGE, () -> slate.change(5, 0));
        Check.refused("3: kind -1", slate, ARGUMENT, () -> slate.change(0, -1));
        Check.refused("3: kind 7", slate, ARGUMENT, () -> slate.change(4, 7));
        Check.refused("3: the word first", slate, RANGE, () -> slate.change(5, 7));
        same("3: first word", 0, slate.change(0, 6));
        same("3: words then", "tvnpn", words(slate));
    }

    private static void wiping() {
        SlantSlate slate = slate("anvnpnd");
        slate.fix(4, 2);
        same("4: the first word", 2, slate.wipe(0));
        same("4: words", "nvnpnd", words(slate));
        same("4: no head is fixed", 0, slate.count(5));
        slate.draw(1);
        same("4: the last word", 2, slate.wipe(5));
        same("4: the first one is drawn", 0, slate.count(4));
        same("4: one in the middle", 1, slate.wipe(2));
        same("4: words then", "nvpn", words(slate));
        Check.refused("4: word -1", slate, RANGE, () -> slate.wipe(-1));
        Check.refused("4: word 4", slate, RANGE, () -> slate.wipe(4));
        slate.undo();
        same("4: undone", "nvnpn", words(slate));
        SlantSlate full = slate(FULL);
        same("4: the 12th", 0, full.wipe(11));
        same("4: eleven are left", "nvaaaaaaaaa", words(full));
        SlantSlate one = slate("n");
        same("4: the only word", 0, one.wipe(0));
        same("4: no word", 0, one.count(0));
        Check.refused("4: no word to wipe", one, RANGE, () -> one.wipe(0));
    }

    private static void fixing() {
        SlantSlate slate = slate("nvnpnpn");
        slate.draw(3);
        same("5: left", 3, slate.fix(3, 2));
        same("5: readings of the sentence", 5, slate.count(1));
        same("5: the first one is drawn", 0, slate.count(4));
        same("5: its heads", "1 -1 1 2 3 1 5", row(slate, 1));
        same("5: one more", 1, slate.fix(5, 4));
        same("5: heads then", "1 -1 1 2 3 4 5", row(slate, 1));
        same("5: in place of the one that was", 1, slate.fix(5, 2));
        same("5: heads in place", "1 -1 1 2 3 2 5", row(slate, 1));
        same("5: the root", 1, slate.fix(1, NONE));
        same("5: fixed words", "0 1 0 1 0 1 0", row(slate, 6));
        same("5: the same once more", 1, slate.fix(1, NONE));
        same("5: all are saved", 6, slate.count(8));
        slate.undo();
        slate.undo();
        same("5: undone", "0 0 0 1 0 1 0", row(slate, 6));
    }

    private static void fixingRefused() {
        SlantSlate slate = slate("nvnpnpn");
        slate.fix(3, 1);
        slate.draw(1);
        Check.refused("5: none would be left", slate, STATE, () -> slate.fix(5, 2));
        Check.refused("5: never a head", slate, STATE, () -> slate.fix(0, 2));
        Check.refused("5: not the root", slate, STATE, () -> slate.fix(0, NONE));
        Check.refused("5: the word itself", slate, RANGE, () -> slate.fix(3, 3));
        Check.refused("5: head 7", slate, RANGE, () -> slate.fix(3, 7));
        Check.refused("5: head -2", slate, RANGE, () -> slate.fix(3, -2));
        Check.refused("5: word 7", slate, RANGE, () -> slate.fix(7, 1));
        Check.refused("5: word -1", slate, RANGE, () -> slate.fix(-1, 1));
        Check.refused("5: word and head -1", slate, RANGE, () -> slate.fix(-1, -1));
        same("5: what was drawn", 1, slate.count(4));
        SlantSlate without = slate("nn");
        Check.refused("5: without a reading", without, STATE, () -> without.fix(0, 1));
        Check.refused("5: the head first", without, RANGE, () -> without.fix(0, 0));
    }

    private static void loosening() {
        SlantSlate slate = slate("nvnpnpn");
        slate.fix(3, 2);
        slate.fix(5, 2);
        same("6: left", 3, slate.loosen(5));
        slate.draw(2);
        same("6: one that is loose", 3, slate.loosen(0));
        same("6: the first one is drawn", 0, slate.count(4));
        same("6: it is saved", 6, slate.count(8));
        same("6: the other", 5, slate.loosen(3));
        same("6: none is fixed", 0, slate.count(5));
        slate.undo();
        same("6: undone", 1, slate.wordOf(3, 6));
        Check.refused("6: word 7", slate, RANGE, () -> slate.loosen(7));
        Check.refused("6: word -1", slate, RANGE, () -> slate.loosen(-1));
        SlantSlate without = slate("nn");
        same("6: without a reading", 0, without.loosen(1));
        same("6: saved without a reading", 2, without.count(8));
    }

    private static void drawing() {
        SlantSlate slate = slate("nvtnvd");
        same("7: height of the first", 3, slate.draw(0));
        same("7: height of the second", 2, slate.draw(1));
        same("7: drawn", "1 -1 1 4 2 4", row(slate, 1));
        same("7: its rank", 1, slate.count(4));
        Check.refused("7: rank 2", slate, RANGE, () -> slate.draw(2));
        Check.refused("7: rank -1", slate, RANGE, () -> slate.draw(-1));
        same("7: once more", 2, slate.draw(1));
        same("7: saved", 4, slate.count(8));
        slate.undo();
        slate.undo();
        same("7: undone", 0, slate.count(4));
        slate.fix(5, 4);
        same("7: a rank among those left", 2, slate.draw(0));
        Check.refused("7: no more is left", slate, RANGE, () -> slate.draw(1));
        SlantSlate without = slate("vn");
        Check.refused("7: without a reading", without, RANGE, () -> without.draw(0));
    }

    private static void flattening() {
        SlantSlate slate = slate("nvtnvd");
        same("8: the flattest", 1, slate.flatten());
        same("8: drawn", 1, slate.count(4));
        same("8: its heads", "1 -1 1 4 2 4", row(slate, 1));
        same("8: once more", 1, slate.flatten());
        same("8: saved", 3, slate.count(8));
        slate.undo();
        slate.undo();
        same("8: undone", 0, slate.count(4));
        slate.fix(5, 1);
        same("8: of those left", 0, slate.flatten());
        SlantSlate alike = slate("nvnpn");
        alike.draw(1);
        same("8: of several the first", 0, alike.flatten());
        SlantSlate deep = slate("nvnpnpn");
        same("8: the highest of unlike heights", 5, greatestHeight(deep));
        same("8: of unlike heights the least", 0, deep.flatten());
        SlantSlate without = slate("vn");
        Check.refused("8: without a reading", without, STATE, () -> without.flatten());
        SlantSlate empty = new SlantSlate();
        Check.refused("8: without words", empty, STATE, () -> empty.flatten());
    }

    private static int greatestHeight(SlantSlate slate) {
        int greatest = 0;
        for (int rank = 0; rank < slate.count(3); rank++) {
            greatest = Math.max(greatest, slate.readingOf(rank, 0));
        }
        return greatest;
    }

    private static void appending() {
        SlantSlate slate = new SlantSlate();
        same("9: the least code", 1, slate.append(33));
        same("9: the greatest code", 2, slate.append(126));
        Check.refused("9: code 32", slate, ARGUMENT, () -> slate.append(32));
        Check.refused("9: code 127", slate, ARGUMENT, () -> slate.append(127));
        Check.refused("9: code far below", slate, ARGUMENT, () -> slate.append(Integer.MIN_VALUE));
        for (int length = 3; length <= 20; length++) {
            same("9: length", length, slate.append(110));
        }
        Check.refused("9: a 21st character", slate, STATE, () -> slate.append(110));
        Check.refused("9: the code first", slate, ARGUMENT, () -> slate.append(32));
        same("9: nothing is saved", 0, slate.count(8));
    }

    private static void clearing() {
        SlantSlate slate = slate("nv");
        same("10: after load", 0, slate.clearBuffer());
        type(slate, "nvx");
        same("10: three", 3, slate.clearBuffer());
        same("10: none", 0, slate.clearBuffer());
        same("10: from the start again", 1, slate.append(110));
        same("10: nothing is saved", 1, slate.count(8));
    }

    private static void firstErrors() {
        String[] texts = {"", "n", "nvadpct", "x", "nvx", "nv.n", "N", "nvnvnvnvnvnv", "nvnvnvnvnvnvn",
            "nvnvnvnvnvnvx", "nvnvnvnvnvnvnvnvnvnv", "nvnvnvnvnvnx", "ttt", "!v"};
        int[] due = {0, 1, 7, 0, 2, 2, 0, 12, 12, 12, 12, 11, 3, 0};
        for (int i = 0; i < texts.length; i++) {
            SlantSlate slate = new SlantSlate();
            type(slate, texts[i]);
            same("11: " + texts[i], due[i], slate.firstError());
            same("11: the buffer stays", texts[i].length(), slate.clearBuffer());
        }
    }

    private static void loading() {
        SlantSlate slate = new SlantSlate();
        same("12: readings", 2, loadInto(slate, "nvnpn"));
        same("12: words", "nvnpn", words(slate));
        same("12: the buffer is cleared", 0, slate.clearBuffer());
        slate.fix(3, 2);
        same("12: another one", 5, loadInto(slate, "nvnpnpn"));
        same("12: no head is fixed", 0, slate.count(5));
        slate.draw(4);
        same("12: a shorter one", 0, loadInto(slate, "t"));
        same("12: one word", "t", words(slate));
        slate.undo();
        same("12: undone", "nvnpnpn 4", words(slate) + " " + slate.count(4));
        same("12: the buffer is not", 0, slate.clearBuffer());
        same("12: twelve words", 42, loadInto(slate, "nvnpnpnpnpnd"));
        same("12: the first one is drawn", 0, slate.count(4));
        same("12: told by parts", 42, slate.count(2));
        same("12: all kinds", "nvadpct", words(slate("nvadpct")));
    }

    private static void readingsByTheRules() {
        same("12: a verb", "0", readings("v"));
        same("12: an object ahead of the hangings", "0", readings("nvdn"));
        same("12: no adverb in a group", "0", readings("ndv"));
        same("12: an adjective needs its noun", "0", readings("nva"));
        same("12: an opener needs a clause", "0", readings("nvtn"));
        same("12: no opener as a subject", "0", readings("tnvv"));
        same("12: one joiner in a group", "0", readings("nvncncn"));
        same("12: two verbs", "0", readings("nvv"));
        same("12: two objects", "0", readings("nvnan"));
        same("12: an opener behind an object", "0", readings("nvntnv"));
        same("12: a first name is closed by the joiner", "2 | 1 -1 1 2 3 1 5 | 1 -1 1 2 3 4 5", readings("nvncnpn"));
        same("12: a joiner within and behind a phrase", "3 | 1 -1 1 1 3 4 5 | 1 -1 1 2 3 2 5 | 1 -1 1 2 3 4 5",
            readings("nvnpncn"));
        same("12: a joiner behind a phrase", "2 | 5 0 1 0 3 -1 | 5 0 1 2 3 -1", readings("npncnv"));
        same("12: groups in phrases", "3 | 7 0 1 0 3 4 5 -1 | 7 0 1 2 3 0 5 -1 | 7 0 1 2 3 4 5 -1",
            readings("npncnpnv"));
        same("12: a clause in a clause in a clause", "3 | 1 -1 1 4 2 4 7 5 1 | 1 -1 1 4 2 4 7 5 4 | 1 -1 1 4 2 4 7 5 7",
            readings("nvtnvtnvd"));
    }

    private static void loadingRefused() {
        SlantSlate slate = slate("nvnpn");
        slate.fix(3, 2);
        Check.refused("12: an empty buffer", slate, ARGUMENT, () -> slate.load());
        for (String text : new String[] {"x", "nvx", "xnv", "nvnvnvnvnvnvn", "NV", "n-v", "nvnvnvnvnvnvnvnvnvnv"}) {
            type(slate, text);
            Check.refused("12: " + text, slate, ARGUMENT, () -> slate.load());
            same("12: the buffer stays", text.length(), slate.clearBuffer());
        }
        same("12: the sentence stays", "nvnpn 1", words(slate) + " " + slate.count(5));
    }

    private static void writing() {
        for (String text : new String[] {"nv", "anvaanpnd", "npncnvtncnvn", "nvnpncnpn", "nvnpnpnpnpnd"}) {
            for (int rank = slate(text).count(3) - 1; rank >= 0; rank--) {
                SlantSlate slate = slate(text);
                slate.draw(rank);
                type(slate, "!!!");
                int saved = slate.count(8);
                same("13: length", text.length(), slate.write());
                same("13: nothing is saved", saved, slate.count(8));
                same("13: no error", text.length(), slate.firstError());
                slate.load();
                same("13: the text", text, words(slate));
            }
        }
        SlantSlate without = slate("vn");
        type(without, "xyz");
        Check.refused("13: without a reading", without, STATE, () -> without.write());
        same("13: the buffer stays", 3, without.clearBuffer());
        SlantSlate empty = new SlantSlate();
        Check.refused("13: without words", empty, STATE, () -> empty.write());
    }

    private static void keeping() {
        SlantSlate slate = slate("nvnpn");
        same("14: words", 5, slate.keep(0));
        slate.add(3);
        same("14: the other slot", 6, slate.keep(1));
        same("14: nothing is saved", 2, slate.count(8));
        slate.wipe(0);
        same("14: in place", 5, slate.keep(0));
        slate.goBack(0);
        same("14: the later one", "vnpnd", words(slate));
        Check.refused("14: slot 2", slate, ARGUMENT, () -> slate.keep(2));
        Check.refused("14: slot -1", slate, ARGUMENT, () -> slate.keep(-1));
        same("14: without words", 0, new SlantSlate().keep(1));
    }

    private static void goingBack() {
        SlantSlate slate = slate("nvnpnpn");
        slate.fix(3, 2);
        slate.draw(2);
        slate.keep(1);
        loadInto(slate, "nv");
        type(slate, "xy");
        Check.refused("15: slot 2", slate, ARGUMENT, () -> slate.goBack(2));
        Check.refused("15: slot -1", slate, ARGUMENT, () -> slate.goBack(-1));
        Check.refused("15: no snapshot", slate, STATE, () -> slate.goBack(0));
        same("15: words", 7, slate.goBack(1));
        same("15: all", "nvnpnpn 1 3 2 5", words(slate) + " " + slate.count(5) + " " + slate.count(3) + " "
            + slate.count(4) + " " + slate.count(8));
        same("15: the heads", "1 -1 1 2 3 4 5", row(slate, 1));
        same("15: but the buffer", 2, slate.clearBuffer());
        slate.loosen(3);
        slate.wipe(0);
        same("15: it stays", 7, slate.goBack(1));
        same("15: as it was", "1 2", slate.wordOf(3, 6) + " " + slate.count(4));
        slate.undo();
        same("15: undone", "vnpnpn", words(slate));
        same("15: the slots stay then", 7, slate.goBack(1));
        SlantSlate empty = new SlantSlate();
        empty.keep(0);
        empty.add(0);
        same("15: without words", 0, empty.goBack(0));
    }

    private static void undoing() {
        SlantSlate slate = new SlantSlate();
        Check.refused("16: none", slate, STATE, () -> slate.undo());
        slate.add(0);
        slate.add(1);
        slate.keep(0);
        type(slate, "nvx");
        same("16: left", 1, slate.undo());
        same("16: words", "n", words(slate));
        same("16: the buffer stays", 3, slate.clearBuffer());
        same("16: the last one", 0, slate.undo());
        same("16: no word", 0, slate.count(0));
        Check.refused("16: none again", slate, STATE, () -> slate.undo());
        same("16: the slot stays", 2, slate.goBack(0));
        same("16: readings", 1, slate.count(1));
    }

    private static void undoingBeyondSix() {
        SlantSlate slate = slate("nvnpnpn");
        slate.fix(3, 2);
        slate.draw(2);
        slate.draw(1);
        slate.loosen(3);
        slate.flatten();
        same("16: six", 6, slate.count(8));
        slate.add(3);
        slate.wipe(0);
        same("16: still six", 6, slate.count(8));
        same("16: five", 5, slate.undo());
        same("16: before wipe", "nvnpnpnd", words(slate));
        slate.undo();
        same("16: before add", "nvnpnpn 0 0", words(slate) + " " + slate.count(4) + " " + slate.count(5));
        slate.undo();
        slate.undo();
        same("16: before loosen", "1 1", slate.count(4) + " " + slate.count(5));
        same("16: one", 1, slate.undo());
        same("16: before the second draw", "2 1", slate.count(4) + " " + slate.count(5));
        same("16: none", 0, slate.undo());
        same("16: before the first draw", "0 1", slate.count(4) + " " + slate.count(5));
        Check.refused("16: the oldest ones are dropped", slate, STATE, () -> slate.undo());
    }

    private static void wordProperties() {
        SlantSlate slate = slate("anvaanpncnd");
        same("17: kinds", "2 0 1 2 2 0 4 0 5 0 3", row(slate, 0));
        same("17: heads", "1 2 -1 5 5 2 2 6 7 8 2", row(slate, 1));
        same("17: held", "3 1 0 3 3 2 3 6 4 4 3", row(slate, 2));
        same("17: levels", "19 20 20 19 19 20 19 18 18 18 19", row(slate, 3));
        same("17: how many it holds", "0 1 4 0 0 2 1 1 1 0 0", row(slate, 4));
        same("17: along the lines", "0 1 2 3 4 5 6 7 8 9 10", row(slate, 5));
        same("17: fixed", "0 0 0 0 0 0 0 0 0 0 0", row(slate, 6));
        same("17: heads that are left", "1 1 1 1 1 1 2 1 2 1 1", row(slate, 7));
        slate.draw(2);
        same("17: heads as drawn", "1 2 -1 5 5 2 5 6 7 8 2", row(slate, 1));
        same("17: loads as drawn", "0 1 3 0 0 3 1 1 1 0 0", row(slate, 4));
        slate.fix(8, 7);
        same("17: one fixed", "0 0 0 0 0 0 0 0 1 0 0", row(slate, 6));
        same("17: left by it", "1 1 1 1 1 1 2 1 1 1 1", row(slate, 7));
        Check.refused("17: word 11", slate, RANGE, () -> slate.wordOf(11, 0));
        Check.refused("17: word -1", slate, RANGE, () -> slate.wordOf(-1, 0));
        Check.refused("17: what 8", slate, ARGUMENT, () -> slate.wordOf(0, 8));
        Check.refused("17: what -1", slate, ARGUMENT, () -> slate.wordOf(10, -1));
        Check.refused("17: the word first", slate, RANGE, () -> slate.wordOf(11, 8));
    }

    private static void wordPropertiesWithOpener() {
        SlantSlate slate = slate("ncnvtnpnvnd");
        slate.draw(1);
        same("17: heads with an opener", "3 0 1 -1 3 8 5 6 4 8 8", row(slate, 1));
        same("17: held with an opener", "1 4 4 0 5 1 3 6 5 2 3", row(slate, 2));
        same("17: levels with an opener", "20 20 20 20 21 21 20 19 21 21 20", row(slate, 3));
        same("17: loads with an opener", "1 1 0 2 1 1 1 0 3 0 0", row(slate, 4));
        slate.draw(0);
        same("17: the adverb at the root", "3 19", slate.wordOf(10, 1) + " " + slate.wordOf(10, 3));
    }

    private static void levels() {
        SlantSlate high = slate("nvtnvtnvtnvd");
        same("17: openers", "20 20 21 21 21 22 22 22 23 23 23 19", row(high, 3));
        same("17: from the lowest to the highest", 5, high.count(7));
        SlantSlate low = slate("nvpnpnpnpnpn");
        low.draw(low.count(3) - 1);
        same("17: phrases in phrases", "20 20 19 18 17 16 15 14 13 12 11 10", row(low, 3));
        same("17: the deepest", 11, low.count(7));
    }

    private static void wordPropertiesWithoutReading() {
        SlantSlate slate = slate("vnp");
        same("17: kinds without a reading", "1 0 4", row(slate, 0));
        for (int what = 1; what <= 5; what++) {
            same("17: without a reading", "-1 -1 -1", row(slate, what));
        }
        same("17: fixed without a reading", "0 0 0", row(slate, 6));
        same("17: heads without a reading", "0 0 0", row(slate, 7));
    }

    private static void readingProperties() {
        SlantSlate slate = slate("ncnvtanvdpn");
        same("18: readings", 3, slate.count(3));
        same("18: the first", "4 2 3 1 4 0", reading(slate, 0));
        same("18: the second", "4 2 3 1 3 1", reading(slate, 1));
        same("18: the third", "3 2 3 1 3 2", reading(slate, 2));
        slate.fix(8, 7);
        same("18: a rank among all", "4 2 3 1 3 1", reading(slate, 0));
        slate.fix(9, 7);
        same("18: the last of all", "3 2 3 1 3 2", reading(slate, 0));
        Check.refused("18: rank 1", slate, RANGE, () -> slate.readingOf(1, 0));
        Check.refused("18: rank -1", slate, RANGE, () -> slate.readingOf(-1, 0));
        Check.refused("18: what 6", slate, ARGUMENT, () -> slate.readingOf(0, 6));
        Check.refused("18: what -1", slate, ARGUMENT, () -> slate.readingOf(0, -1));
        Check.refused("18: the rank first", slate, RANGE, () -> slate.readingOf(1, 6));
        same("18: looks change nothing", 0, slate.count(4));
        SlantSlate subject = slate("anpnpnpnv");
        same("18: a subject that holds the most", "3 1 4 0 4 0", reading(subject, 0));
        SlantSlate without = slate("n");
        Check.refused("18: without a reading", without, RANGE, () -> without.readingOf(0, 0));
    }

    private static void counts() {
        SlantSlate slate = slate("nvnpnpn");
        same("19: at first", "7 5 5 5 0 0 2 3 1", numbers(slate));
        slate.fix(3, 2);
        same("19: with a fixed head", "7 5 5 3 0 1 1 3 2", numbers(slate));
        slate.draw(2);
        same("19: with another one drawn", "7 5 5 3 2 1 1 5 3", numbers(slate));
        same("19: without a reading", "2 0 0 0 -1 0 0 0 1", numbers(slate("vn")));
        same("19: without words", "0 0 0 0 -1 0 0 0 0", numbers(new SlantSlate()));
        Check.refused("19: what 9", slate, ARGUMENT, () -> slate.count(9));
        Check.refused("19: what -1", slate, ARGUMENT, () -> slate.count(-1));
    }

    private static void partsOfASentence() {
        String[] texts = {"n", "an", "v", "a", "d", "dd", "pn", "pnpn", "pnd", "npn", "npnpn", "ncn", "ncncn", "pncn",
            "npncn", "nv", "nvnpn", "nvtnv", "tnv", "nvd", "nvnd", "nvdn", "ncanvpn", "nvtnvd", "pnpnpn", "npncnpn"};
        String[] due = {"1 1 0 0 0", "1 1 0 0 0", "0 0 0 0 0", "0 0 0 0 0", "0 0 0 0 1", "0 0 0 0 1", "0 0 1 0 1",
            "0 0 1 0 2", "0 0 0 0 1", "1 1 0 0 0", "2 2 0 0 0", "0 1 0 0 0", "0 0 0 0 0", "0 0 1 0 1",
            "1 2 0 0 0", "0 0 0 1 0", "0 0 0 2 0", "0 0 0 1 0", "0 0 0 0 0", "0 0 0 1 0", "0 0 0 1 0", "0 0 0 0 0",
            "0 0 0 1 0", "0 0 0 2 0", "0 0 2 0 5", "2 3 0 0 0"};
        for (int i = 0; i < texts.length; i++) {
            SlantSlate slate = slate(texts[i]);
            same("20: " + texts[i], due[i], ways(slate, 0, texts[i].length()));
            SlantSlate middle = slate("v" + texts[i] + "a");
            same("20: " + texts[i] + " in the middle", due[i], ways(middle, 1, 1 + texts[i].length()));
        }
        SlantSlate shorter = slate("nvnpnpnpn");
        shorter.wipe(0);
        loadInto(shorter, "nvn");
        same("20: behind a longer one", "0 0 0 1 0", ways(shorter, 0, 3));
    }

    private static void partsRefused() {
        SlantSlate slate = slate("nvn");
        Check.refused("20: from -1", slate, RANGE, () -> slate.part(-1, 1, 0));
        Check.refused("20: to 4", slate, RANGE, () -> slate.part(0, 4, 0));
        Check.refused("20: an empty part", slate, RANGE, () -> slate.part(1, 1, 0));
        Check.refused("20: from behind to", slate, RANGE, () -> slate.part(2, 1, 0));
        Check.refused("20: behind the last word", slate, RANGE, () -> slate.part(3, 3, 0));
        Check.refused("20: far behind", slate, RANGE, () -> slate.part(0, Integer.MAX_VALUE, 0));
        Check.refused("20: what 5", slate, ARGUMENT, () -> slate.part(0, 3, 5));
        Check.refused("20: what -1", slate, ARGUMENT, () -> slate.part(0, 3, -1));
        Check.refused("20: the words first", slate, RANGE, () -> slate.part(0, 4, 5));
    }

    private static void ifFixed() {
        SlantSlate slate = slate("nvnpnpn");
        long before = slate.digest();
        same("21: heads of the first phrase", "2 3 0 0",
            slate.ifFixed(3, 1) + " " + slate.ifFixed(3, 2) + " " + slate.ifFixed(3, 0) + " " + slate.ifFixed(3, NONE));
        same("21: heads of the second", "2 1 2",
            slate.ifFixed(5, 1) + " " + slate.ifFixed(5, 2) + " " + slate.ifFixed(5, 4));
        same("21: the root", 5, slate.ifFixed(1, NONE));
        same("21: nothing is changed", before, slate.digest());
        slate.fix(3, 2);
        same("21: beside a fixed head", 1, slate.ifFixed(5, 1));
        same("21: in place of it", 2, slate.ifFixed(3, 1));
        Check.refused("21: word 7", slate, RANGE, () -> slate.ifFixed(7, 0));
        Check.refused("21: word -1", slate, RANGE, () -> slate.ifFixed(-1, 0));
        Check.refused("21: head 7", slate, RANGE, () -> slate.ifFixed(0, 7));
        Check.refused("21: head -2", slate, RANGE, () -> slate.ifFixed(0, -2));
        Check.refused("21: the word itself", slate, RANGE, () -> slate.ifFixed(2, 2));
        same("21: without a reading", 0, slate("vn").ifFixed(1, 0));
    }

    private static void questions() {
        same("22: of two the better one", 5, slate("nvnpnpn").question());
        same("22: of several the lowest", 3, slate("nvnpncn").question());
        same("22: just one", 3, slate("nvnpn").question());
        same("22: none", NONE, slate("nvn").question());
        same("22: without a reading", NONE, slate("vn").question());
        same("22: without words", NONE, new SlantSlate().question());
        SlantSlate slate = slate("nvnpnpn");
        slate.fix(5, 1);
        same("22: in those that are left", 3, slate.question());
        slate.fix(3, 1);
        same("22: one is left", NONE, slate.question());
    }

    private static void nextKinds() {
        String[] texts = {"n", "nv", "nva", "nvd", "nvt", "nvtn", "nvp", "nvn", "nvnc", "vn", "nvnd", "v", "a"};
        int[] due = {2, 9, 1, 8, 0, 2, 1, 8, 1, 0, 8, 0, 0};
        for (int i = 0; i < texts.length; i++) {
            SlantSlate slate = slate(texts[i]);
            long before = slate.digest();
            same("23: " + texts[i], due[i], slate.next());
            same("23: nothing is changed", before, slate.digest());
        }
        same("23: without words", 0, new SlantSlate().next());
        same("23: 11 words", 9, slate("anpnpnpnpnv").next());
        same("23: 11 words, and an adverb", 8, slate("nvnpnpnpnpn").next());
        same("23: 12 words", 0, slate("npnpnpnpnpnv").next());
    }

    private static void shares() {
        same("24: without words", 1.0, new SlantSlate().sureShare());
        same("24: without a reading", 0.0, slate("vn").sureShare());
        same("24: all", 1.0, slate("nvn").sureShare());
        same("24: four of five", 0.8, slate("nvnpn").sureShare());
        SlantSlate slate = slate("nvnpnpn");
        same("24: five of seven", 5.0 / 7, slate.sureShare());
        slate.fix(3, 2);
        same("24: in those that are left", 6.0 / 7, slate.sureShare());
        slate.fix(5, 1);
        same("24: all fixed", 1.0, slate.sureShare());
    }

    private static long mixed(long hash, long... values) {
        long result = hash;
        for (long value : values) {
            result = 31 * result + value;
        }
        return result;
    }

    /** The document's list, by the other calls. */
    private static long digestDue(SlantSlate slate, int slot0, int slot1, String buffer) {
        long hash = 3407;
        for (int what = 0; what <= 8; what++) {
            hash = mixed(hash, slate.count(what));
        }
        for (int word = 0; word < slate.count(0); word++) {
            for (int what = 0; what <= 7; what++) {
                hash = mixed(hash, slate.wordOf(word, what));
            }
        }
        for (int rank = 0; rank < slate.count(3) && rank < 10; rank++) {
            for (int what = 0; what <= 5; what++) {
                hash = mixed(hash, slate.readingOf(rank, what));
            }
        }
        for (int word = 0; word < slate.count(0); word++) {
            for (int what = 0; what <= 4; what++) {
                hash = mixed(hash, slate.part(0, word + 1, what));
            }
        }
        hash = mixed(hash, slate.question(), slate.next(), Double.doubleToLongBits(slate.sureShare()));
        hash = mixed(hash, slot0, slot1, buffer.length());
        for (char code : buffer.toCharArray()) {
            hash = mixed(hash, code);
        }
        return hash;
    }

    private static SlantSlate kept(String text) {
        SlantSlate slate = slate(text);
        slate.keep(1);
        type(slate, "nv~!");
        return slate;
    }

    private static SlantSlate keptAndFixed(String text) {
        SlantSlate slate = kept(text);
        slate.keep(0);
        if (slate.count(3) > 1) {
            slate.draw(1);
            slate.fix(slate.question(), slate.wordOf(slate.question(), 1));
        }
        return slate;
    }

    private static void digests() {
        SlantSlate empty = new SlantSlate();
        long due = mixed(3407, 0, 0, 0, 0, -1, 0, 0, 0, 0, -1, 0, 0x3ff0000000000000L, 0, 0, 0);
        same("25: a new object", due, empty.digest());
        for (String text : new String[] {"nv", "vn", "nvnpn", "nvnpnpnpn", "nvnpnpnpnpnd", "nvtnvdd", "anvaanpncnd",
            "nvnpnpn", "nvpnpn", "npnpnpnvnpnd", "nvnpndnd", "nvddnpn", FULL}) {
            same("25: " + text, digestDue(slate(text), 0, 0, ""), slate(text).digest());
            same("25: " + text + " with a slot and a buffer",
                digestDue(kept(text), 0, 1, "nv~!"), kept(text).digest());
            same("25: " + text + " with a fixed head",
                digestDue(keptAndFixed(text), 1, 1, "nv~!"), keptAndFixed(text).digest());
        }
    }
}
