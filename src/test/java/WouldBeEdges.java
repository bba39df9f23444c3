import java.math.BigInteger;

/** Promises 21 to 25: what would be, and the digest. */
final class WouldBeEdges extends Edges {
    private static final BigInteger TWO_TO_64 = BigInteger.ONE.shiftLeft(64);

    private WouldBeEdges() {
    }

    static void run() {
        ifFixed();
        ifFixedRefused();
        questions();
        nextKinds();
        shares();
        digestByHand();
        digestList();
        digestOfReadings();
        digestOfTheRest();
    }

    private static void ifFixed() {
        test("Promise 21", "Tells how many readings would be left by a fixed head.", "none, one, all", () -> {
            SlantSlate slate = slate("nvnpnpn");
            same("none", 0, slate.ifFixed(0, 2));
            same("one", 1, slate.ifFixed(5, 2));
            same("all", 5, slate.ifFixed(0, 1));
            same("42", 42, slate("nvnpnpnpnpnd").ifFixed(11, 1));
        });
        test("Promise 21", "Tells how many readings would be left by a fixed head.", "nothing is changed", () -> {
            SlantSlate slate = busy();
            slate.ifFixed(3, 2);
            slate.ifFixed(5, 4);
            slate.ifFixed(0, NONE);
            same("all of it", depth(busy()), depth(slate));
        });
        test("Promise 21", "word: its number", "the first, the last, the 12th", () -> {
            same("the first", 5, slate("nvnpnpn").ifFixed(0, 1));
            same("the last", 5, slate("nvnpnpn").ifFixed(6, 5));
            same("the 12th", 1, slate(FULL).ifFixed(11, 1));
        });
        test("Promise 21", "head: the number of another word", "the first, the 12th", () -> {
            same("the first", 1, slate("ncnv").ifFixed(1, 0));
            same("the 12th", 42, slate("npnpnpnpnpnv").ifFixed(0, 11));
        });
        test("Promise 21", "NONE: it is the root", "of the root, of another word, without a reading", () -> {
            same("the root", 5, slate("nvnpnpn").ifFixed(1, NONE));
            same("another word", 0, slate("nvnpnpn").ifFixed(0, NONE));
            same("without a reading", 0, slate("vn").ifFixed(0, NONE));
        });
        test("Promise 21", "Returns how many, if this head was fixed for the word, in place of the one that is.",
            "the same word, another one", () -> {
                SlantSlate slate = busy();
                same("the head that is fixed", 2, slate.ifFixed(3, 1));
                same("another head of the word", 3, slate.ifFixed(3, 2));
                same("a head of another word", 1, slate.ifFixed(5, 4));
                same("a head that goes with no fixed one", 0, slate.ifFixed(5, 2));
            });
    }

    private static void ifFixedRefused() {
        test("Promise 21", "Throws IndexOutOfBoundsException if there is no such word", "just outside, far", () -> {
            for (int word : new int[] {-1, 7, LEAST, MOST}) {
                refused("ifFixed(" + word + ", 0)", Edges::busy, RANGE, slate -> slate.ifFixed(word, 0));
                refused("ifFixed(" + word + ", NONE)", Edges::busy, RANGE, slate -> slate.ifFixed(word, NONE));
            }
            refused("ifFixed(12, 1) of 12", Edges::full, RANGE, slate -> slate.ifFixed(12, 1));
            refused("ifFixed(0, NONE) of none", Edges::wordless, RANGE, slate -> slate.ifFixed(0, NONE));
        });
        test("Promise 21", "or head is none of these", "just outside, the word itself, and far", () -> {
            for (int head : new int[] {-2, 7, LEAST, MOST}) {
                refused("ifFixed(0, " + head + ")", Edges::busy, RANGE, slate -> slate.ifFixed(0, head));
            }
            for (int word = 0; word < 7; word++) {
                int asked = word;
                refused("its own head, " + word, Edges::busy, RANGE, slate -> slate.ifFixed(asked, asked));
            }
            refused("ifFixed(0, 12) of 12", Edges::full, RANGE, slate -> slate.ifFixed(0, 12));
            refused("ifFixed(0, 4) without a reading", Edges::unreadable, RANGE, slate -> slate.ifFixed(0, 4));
            refused("ifFixed(0, 0) without a reading", Edges::unreadable, RANGE, slate -> slate.ifFixed(0, 0));
        });
    }

    private static void questions() {
        String sentence = "the one for which the most readings that can be left behind an answer are the fewest";
        test("Promise 22", "Finds the word whose head should be asked for.", "nothing is changed", () -> {
            SlantSlate slate = busy();
            same("question()", 5, slate.question());
            same("all of it", depth(busy()), depth(slate));
        });
        test("Promise 22", "Returns of the words that have more than one head in the readings that are left",
            "one of them, and none that is fixed", () -> {
                same("one", 3, slate("nvnpn").question());
                SlantSlate slate = slate("nvnpnpn");
                slate.fix(5, 1);
                same("not the fixed one", 3, slate.question());
            });
        test("Promise 22", sentence, "two of three against three of five", () ->
            same("question()", 5, slate("nvnpnpn").question()));
        test("Promise 22", sentence, "14 of 42", () -> same("question()", 9, slate("nvnpnpnpnpnd").question()));
        test("Promise 22", "of several the lowest", "two alike, three alike, the last two of three alike", () -> {
            same("two", 3, slate("nvnpncn").question());
            same("three", 3, slate("npnpncncnv").question());
            same("the last two of three", 8, slate("nvndpnpnpncn").question());
        });
        test("Promise 22", "NONE if there is none.", "no words, no reading, one reading, one left", () -> {
            same("no words", NONE, new SlantSlate().question());
            same("no reading", NONE, slate("vn").question());
            same("one reading", NONE, slate("nv").question());
            SlantSlate slate = slate("nvnpn");
            slate.fix(3, 1);
            same("one left", NONE, slate.question());
        });
    }

    private static void nextKinds() {
        test("Promise 23", "Finds the words that could be added.", "nothing is changed", () -> {
            SlantSlate slate = busy();
            slate.next();
            same("all of it", depth(busy()), depth(slate));
        });
        test("Promise 23", "Returns the kinds, as a mask, which as a word more behind the last one would"
            + " give the sentence at least one reading", "none, one, two", () -> {
                same("none", 0, slate("nvt").next());
                same("a verb", 2, slate("n").next());
                same("a noun", 1, slate("nva").next());
                same("an adverb", 8, slate("nvn").next());
                same("a noun, an adverb", 9, slate("nv").next());
                same("without words", 0, new SlantSlate().next());
            });
        test("Promise 23", "would give the sentence at least one reading", "one, 42; fixed heads don't matter", () -> {
            same("one", 9, slate("nv").next());
            same("42", 8, slate("nvnpnpnpnpn").next());
            same("beside a fixed head", 8, busy().next());
        });
        test("Promise 23", "Returns the kinds, as a mask", "each sentence one word longer", () -> {
            for (String words : "-n-nv-nvp-nvpn-nvt-nvtn-nvtnv-an-nvd-tnv".split("-")) {
                int due = 0;
                for (int kind = 0; kind <= 6; kind++) {
                    due |= slate(words).add(kind) > 0 ? 1 << kind : 0;
                }
                same("mask of " + words, due, slate(words).next());
            }
        });
        test("Promise 23", "0 with 12 words.", "11 words, 12 words", () -> {
            same("11", 9, slate("npnpnpnpanv").next());
            same("12", 0, slate("anpnpnpnpanv").next());
        });
    }

    private static void shares() {
        test("Promise 24", "Returns the words that have just one head in the readings that are left,"
            + " as a double, divided by all words", "a third less, beside fixed heads, all", () -> {
                SlantSlate slate = slate("nvnpnpnpnpnd");
                same("8 of 12", 8.0 / 12, slate.sureShare());
                slate.fix(3, 1);
                same("9 of 12", 0.75, slate.sureShare());
                slate.fix(9, 8);
                slate.fix(7, 6);
                slate.fix(5, 4);
                same("all", 1.0, slate.sureShare());
                same("4 of 5", 0.8, slate("nvnpn").sureShare());
            });
        test("Promise 24", "1.0 without words", "a new object, the last word wiped away", () -> {
            same("a new object", 1.0, new SlantSlate().sureShare());
            SlantSlate slate = slate("v");
            slate.wipe(0);
            same("wiped", 1.0, slate.sureShare());
        });
        test("Promise 24", "0.0 if there is no reading.", "1 word, 12 words", () -> {
            same("1", 0.0, slate("v").sureShare());
            same("12", 0.0, slate("vaaaaaaaaaan").sureShare());
            same("its bits are those of 0.0", 0L, Double.doubleToLongBits(slate("v").sureShare()));
        });
        test("Promise 24", "Returns how sure the heads are.", "nothing is changed", () -> {
            SlantSlate slate = busy();
            slate.sureShare();
            same("all of it", depth(busy()), depth(slate));
        });
    }

    private static void digestByHand() {
        test("Promise 25", "The hash starts at 3407.", "without words: 15 values", () ->
            same("digest()", -3272683799750754447L, new SlantSlate().digest()));
        test("Promise 25", "the hash becomes 31 * hash + v, in long arithmetic with overflow.", "47 values", () -> {
            SlantSlate slate = new SlantSlate();
            slate.add(0);
            slate.add(1);
            same("digest()", -1930344597896147677L, slate.digest());
        });
        test("Promise 25", "in long arithmetic with overflow.", "as whole numbers, cut to 64 bits", () -> {
            for (String words : new String[] {"", "n", "nvnpn", "nvnpnpnpnpnd"}) {
                same(words, digestDue(words, 0, 0, "", 10), slate(words).digest());
            }
        });
        test("Promise 25", "Returns the hash.", "all 64 bits of it, with its sign", () -> {
            same("below zero", true, new SlantSlate().digest() < LEAST);
            same("above zero", true, slate("nvnpn").digest() > MOST);
        });
        test("Promise 25", "Computes a hash of the whole state.", "nothing is changed", () -> {
            SlantSlate slate = busy();
            same("once more", slate.digest(), slate.digest());
            same("all of it", depth(busy()), depth(slate));
        });
    }

    /** The document's list, told by the other calls, each piece on a slate of its own. */
    private static long digestDue(String words, int slot0, int slot1, String buffer, int mostReadings) {
        SlantSlate slate = slate(words);
        BigInteger hash = BigInteger.valueOf(3407);
        hash = mixed(hash, numbers(slate));
        for (int word = 0; word < words.length(); word++) {
            StringBuilder properties = new StringBuilder();
            for (int what = 0; what <= 7; what++) {
                properties.append(slate.wordOf(word, what)).append(' ');
            }
            hash = mixed(hash, properties.toString());
        }
        for (int rank = 0; rank < slate.count(3) && rank < mostReadings; rank++) {
            hash = mixed(hash, reading(slate, rank));
        }
        for (int word = 0; word < words.length(); word++) {
            hash = mixed(hash, ways(slate, 0, word + 1));
        }
        hash = mixed(hash, slate.question() + " " + slate.next());
        hash = mixed(hash, "" + Double.doubleToLongBits(slate.sureShare()));
        hash = mixed(hash, slot0 + " " + slot1 + " " + buffer.length());
        for (char code : buffer.toCharArray()) {
            hash = mixed(hash, "" + (int) code);
        }
        return hash.longValue();
    }

    private static BigInteger mixed(BigInteger start, String values) {
        BigInteger hash = start;
        for (String value : values.trim().split(" ")) {
            hash = hash.multiply(BigInteger.valueOf(31)).add(new BigInteger(value)).mod(TWO_TO_64);
        }
        return hash;
    }

    private static void digestList() {
        listed("count(0) to count(8)", "vn", "nv");
        listed("for each word its properties 0 to 7", "n", "nvtnvpncnd", "anvaanpand");
        listed("for each word w part from 0 to (w and 1) with 0 to 4", "npncnpn", "pnpnpnpnpnpn", "dd", "nvtnv");
        listed("question", "nvn", "nvnpn", "nvnpnpn");
        listed("next", "nva", "nv", "n", FULL);
        listed("the bits of sureShare (as Double.doubleToLongBits)", "", "v", "nv", "nvnpn", "nvnpnd", "nvnpnpn",
            "nvdpnpn", "nvnpnpnd", "nvnpnpnpn", "nvnpnpnpnd", "nvnpnpnpnpn", "nvnpnpnpnpnd", "npnpnv", "nvpnpnpn",
            "nvtnvdd", "nvtnvdddd");
    }

    private static void listed(String sentence, String... texts) {
        for (String words : texts) {
            test("Promise 25", sentence, "\"" + words + "\"", () ->
                same("digest()", digestDue(words, 0, 0, "", 10), slate(words).digest()));
        }
    }

    private static void digestOfReadings() {
        String sentence = "for each reading that is left, at most the first 10, its properties 0 to 5";
        test("Promise 25", sentence, "none, one", () -> {
            same("none", digestDue("vn", 0, 0, "", 10), slate("vn").digest());
            same("one", digestDue("nv", 0, 0, "", 10), slate("nv").digest());
        });
        // 9, 10, 11, and 42 of them
        String[] sentences = {"nvnpnpncn", "nvtnvnpncndd", "nvtnvnpndddd", "nvnpnpnpnpnd"};
        for (String words : sentences) {
            int readings = slate(words).count(1);
            test("Promise 25", sentence, readings + " readings", () -> {
                same("as is due", digestDue(words, 0, 0, "", 10), slate(words).digest());
                same("as with at most 9", readings <= 9, digestDue(words, 0, 0, "", 9) == slate(words).digest());
                same("as with at most 11", readings <= 10, digestDue(words, 0, 0, "", 11) == slate(words).digest());
            });
        }
    }

    private static void digestOfTheRest() {
        test("Promise 25", "for each slot 1 if it has a snapshot, otherwise 0", "each, both", () -> {
            for (int filled = 0; filled <= 3; filled++) {
                SlantSlate slate = slate("nvnpn");
                for (int slot = 0; slot <= 1; slot++) {
                    if ((filled >> slot & 1) == 1) {
                        slate.keep(slot);
                    }
                }
                same("filled " + filled, digestDue("nvnpn", filled & 1, filled >> 1, "", 10), slate.digest());
            }
        });
        test("Promise 25", "the length of the buffer and each of its character codes.", "0, 1, 20 characters", () -> {
            for (String text : new String[] {"", "!", "~", "nv", "!~!~!~!~!~!~!~!~!~!~"}) {
                SlantSlate slate = slate("nvn");
                type(slate, text);
                same(text, digestDue("nvn", 0, 0, text, 10), slate.digest());
            }
        });
        test("Promise 25", "the length of the buffer and each of its character codes.", "none that was cleared",
            () -> {
                SlantSlate slate = slate("nvn");
                type(slate, "!~!~");
                slate.clearBuffer();
                same("digest()", digestDue("nvn", 0, 0, "", 10), slate.digest());
            });
    }
}
