import java.util.ArrayList;
import java.util.List;
import java.util.function.Consumer;
import java.util.function.Supplier;

/** What the tests of the document's boundary cases share. Each test quotes the sentence that it looks at. */
abstract class Edges extends Slates {
    /** The heading of a section of the document, and words that stand in it. */
    record Quote(String section, String sentence) {
    }

    static final List<Quote> QUOTES = new ArrayList<>();

    static void test(String section, String sentence, String edge, Runnable body) {
        QUOTES.add(new Quote(section, sentence));
        Check.test(section + ", \"" + sentence + "\", " + edge, body);
    }

    /** "nvnpnpn" with a fixed head, its second reading drawn, six states saved, unlike snapshots, a bad text. */
    static SlantSlate busy() {
        SlantSlate slate = slate("nvnpnpn");
        slate.keep(1);
        slate.draw(4);
        slate.fix(3, 2);
        slate.keep(0);
        slate.draw(2);
        slate.loosen(3);
        slate.fix(3, 1);
        slate.draw(1);
        type(slate, "nv~");
        return slate;
    }

    /** Much as a busy one, but with three states saved: there is room for more. */
    static SlantSlate calm() {
        SlantSlate slate = slate("nvnpnpn");
        slate.keep(1);
        slate.fix(3, 2);
        slate.keep(0);
        slate.draw(2);
        type(slate, "nv~");
        return slate;
    }

    /** 12 words, 20 characters, six states saved. */
    static SlantSlate full() {
        SlantSlate slate = slate("nvnpnpnpnpnd");
        slate.keep(0);
        slate.fix(3, 2);
        for (int rank = 6; rank > 0; rank--) {
            slate.draw(rank);
        }
        type(slate, "nvnvnvnvnvnvnvnvnvnv");
        return slate;
    }

    /** Words without a reading, but all else that a slate can have. */
    static SlantSlate unreadable() {
        SlantSlate slate = slate("nvnpn");
        slate.keep(0);
        slate.draw(1);
        slate.wipe(1);
        slate.keep(1);
        type(slate, "nv");
        return slate;
    }

    static SlantSlate wordless() {
        return new SlantSlate();
    }

    /** All of a slate, also each saved state and each snapshot; it is used up by that. */
    static String depth(SlantSlate slate) {
        StringBuilder text = new StringBuilder().append(slate.digest());
        for (int left = slate.count(8); left > 0; left--) {
            slate.undo();
            text.append(' ').append(slate.digest());
        }
        for (int slot = 0; slot <= 1; slot++) {
            int asked = slot;
            text.append(' ').append(Check.outcome(() -> slate.goBack(asked))).append(' ').append(slate.digest());
        }
        return text.toString();
    }

    /** The call must throw just that on a slate so made, and leave all of it as it was. */
    static void refused(String what, Supplier<SlantSlate> made, Class<?> due, Consumer<SlantSlate> call) {
        SlantSlate slate = made.get();
        same(what, "throws " + due.getName(), Check.outcome(() -> {
            call.accept(slate);
            return "an answer";
        }));
        same(what + " changes nothing", depth(made.get()), depth(slate));
    }

    /** The call must save one state, and undo() must bring back all that was; it may not touch the buffer. */
    static void undoable(String what, Supplier<SlantSlate> made, Consumer<SlantSlate> call) {
        SlantSlate slate = made.get();
        call.accept(slate);
        int before = made.get().count(8);
        same(what + " saves one state", before + 1, slate.count(8));
        same(what + " leaves those that were saved", before, slate.undo());
        same(what + " is undone", depth(made.get()), depth(slate));
    }

    /** The call must leave all as it is, but what it says that it changes in the buffer. */
    static void savesNothing(String what, Supplier<SlantSlate> made, Consumer<SlantSlate> call) {
        SlantSlate slate = made.get();
        SlantSlate twin = made.get();
        call.accept(slate);
        slate.clearBuffer();
        twin.clearBuffer();
        same(what + " leaves all but the buffer", depth(twin), depth(slate));
    }
}
