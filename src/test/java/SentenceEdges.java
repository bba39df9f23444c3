/** Words, readings and their order, and promises 1 to 4. */
final class SentenceEdges extends Edges {
    private static final int[] NO_KINDS = {-1, 7, LEAST, MOST};

    private SentenceEdges() {
    }

    static void run() {
        objects();
        words();
        clauses();
        objectsAndHangings();
        groups();
        names();
        headsOfParts();
        orderOfReadings();
        waysOfHolding();
        newObject();
        adding();
        addingRefused();
        changing();
        changingRefused();
        wiping();
        wipingRefused();
    }

    private static void objects() {
        test("What it is", "An object is used for at most 512 calls", "the 512th call", () -> {
            SlantSlate slate = new SlantSlate();
            for (int call = 1; call <= 504; call += 8) {
                slate.add(0);
                slate.add(1);
                slate.keep(0);
                slate.append(110);
                slate.write();
                slate.load();
                slate.wipe(1);
                slate.wipe(0);
            }
            for (int call = 505; call <= 511; call++) {
                slate.add(call == 506 ? 1 : 0);
            }
            SlantSlate twin = slate("nv");
            twin.keep(0);
            twin.wipe(1);
            twin.wipe(0);
            for (int kind : new int[] {0, 1, 0, 0, 0, 0, 0}) {
                twin.add(kind);
            }
            same("digest", twin.digest(), slate.digest());
        });
        test("Exceptions", "NONE = -1", "the constant", () -> same("NONE", -1, SlantSlate.NONE));
    }

    private static void words() {
        test("Words", "A sentence has 0 to 12 words", "none", () -> {
            SlantSlate slate = slate("n");
            slate.wipe(0);
            same("words", 0, slate.count(0));
        });
        test("Words", "A sentence has 0 to 12 words", "12, and never 13", () -> {
            SlantSlate slate = new SlantSlate();
            for (int word = 0; word < 12; word++) {
                slate.add(word % 7);
            }
            same("words", 12, slate.count(0));
            same("a 13th", "throws java.lang.IllegalStateException", Check.outcome(() -> slate.add(0)));
            same("words then", "nvadpctnvadp", words(slate));
        });
        test("Words", "numbered from 0", "the first and the last of 12", () -> {
            SlantSlate slate = slate("tvadpcnnvadc");
            same("word 0", 6, slate.wordOf(0, 0));
            same("word 11", 5, slate.wordOf(11, 0));
        });
        test("Words", "at first none", "a new object", () -> same("words", 0, new SlantSlate().count(0)));
        String[] letters = {"0 a noun (n)", "1 a verb (v)", "2 an adjective (a)", "3 an adverb (d)",
            "4 a preposition (p)", "5 a joiner (c)", "6 an opener (t)"};
        for (int kind = 0; kind <= 6; kind++) {
            int due = kind;
            test("Words", letters[kind], "as a number and as a letter", () -> {
                SlantSlate slate = slate("" + Model.LETTERS.charAt(due));
                same("kind of the letter", due, slate.wordOf(0, 0));
                slate.add(due);
                same("kind that is added", due, slate.wordOf(1, 0));
            });
        }
    }

    private static void clauses() {
        String clause = "A clause is a group, a verb, perhaps an object, and any number of hangings, in this order.";
        test("Readings", "it is a clause, whole", "no word, a part too few, a word too many", () -> {
            same("without words", 0, new SlantSlate().count(1));
            same("without a group", "0", readings("v"));
            same("without a verb", "0", readings("n"));
            same("a word more", "0", readings("nvna"));
            same("a word more ahead", "0", readings("dnvn"));
            same("two clauses", "0", readings("nvnv"));
        });
        test("Readings", "each word but one has another word as its head", "one root in each reading", () -> {
            SlantSlate slate = slate("anvtncnvpnd");
            for (int rank = 0; rank < 3; rank++) {
                slate.draw(rank);
                int roots = 0;
                for (int word = 0; word < 11; word++) {
                    int head = slate.wordOf(word, 1);
                    same("head " + head + " of word " + word, true, head >= NONE && head < 11 && head != word);
                    roots += head == NONE ? 1 : 0;
                }
                same("roots of reading " + rank, 1, roots);
            }
        });
        test("Readings", clause, "the least one", () -> same("nv", "1 | 1 -1", readings("nv")));
        test("Readings", "perhaps an object", "none, one, two", () -> {
            same("none", "1 | 1 -1 1", readings("nvd"));
            same("one", "1 | 1 -1 1", readings("nvn"));
            same("two", "0", readings("nvnn"));
            same("two, parted by an adjective", "0", readings("nvnan"));
            same("a group and an opener", "0", readings("nvntnv"));
        });
        test("Readings", "any number of hangings", "none, one, ten", () -> {
            same("none", "1 | 1 -1", readings("nv"));
            same("one", "1 | 1 -1 1", readings("nvd"));
            same("ten", "1 | 1 -1 1 1 1 1 1 1 1 1 1 1", readings("nvdddddddddd"));
            same("nine behind an object", "1 | 1 -1 1 1 1 1 1 1 1 1 1 1", readings("nvnddddddddd"));
        });
        test("Readings", "in this order", "each pair the other way round", () -> {
            same("verb, group", "0", readings("vn"));
            same("object, verb", "0", readings("nnv"));
            same("hanging, object", "0", readings("nvdn"));
            same("phrase, object", "0", readings("nvpnn"));
            same("hanging, opener", "0", readings("nvdtnv"));
            same("hanging, verb", "0", readings("ndv"));
            same("hanging, group", "0", readings("dnv"));
            same("phrase, group", "0", readings("pnnv"));
        });
    }

    private static void objectsAndHangings() {
        test("Readings", "The object is a group, or an opener and a clause behind it.", "a word too few", () -> {
            same("a group", "1 | 1 -1 3 1", readings("nvan"));
            same("an opener alone", "0", readings("nvt"));
            same("an opener and a group", "0", readings("nvtn"));
            same("an opener and a verb", "0", readings("nvtv"));
            same("an opener and a clause", "1 | 1 -1 1 4 2", readings("nvtnv"));
            same("two openers", "0", readings("nvttnv"));
            same("three clauses behind openers", "1 | 1 -1 1 4 2 4 7 5 7 10 8", readings("nvtnvtnvtnv"));
        });
        test("Readings", "or an opener and a clause behind it", "nowhere but as an object", () -> {
            same("as a subject", "0", readings("tnvv"));
            same("alone", "0", readings("tnv"));
            same("in a phrase", "0", readings("nvptnv"));
            same("behind a joiner", "0", readings("nvnctnv"));
            same("on a noun", "0", readings("ntnvv"));
        });
        test("Readings", "A hanging is an adverb, or a phrase.", "nothing else hangs", () -> {
            same("adverb", "1 | 1 -1 1", readings("nvd"));
            same("phrase", "1 | 1 -1 1 2", readings("nvpn"));
            same("both", "1 | 1 -1 1 1 3 1", readings("nvdpnd"));
            same("adjective", "0", readings("nva"));
            same("joiner", "0", readings("nvc"));
        });
        test("Readings", "A phrase is a preposition and a group behind it.", "no group, a group of two names", () -> {
            same("no group", "0", readings("nvp"));
            same("an adverb", "0", readings("nvpd"));
            same("an adjective alone", "0", readings("nvpa"));
            same("two names", "1 | 1 -1 1 2 3 4", readings("nvpncn"));
            same("the group ahead", "0", readings("nvnp"));
        });
    }

    private static void groups() {
        test("Readings", "A group is a name", "of one word", () -> same("nv", "1 | 1 -1", readings("nv")));
        test("Readings", "or a name, a joiner, and a name.", "a name too few, a name too many", () -> {
            same("no first name", "0", readings("cnv"));
            same("no second name", "0", readings("ncv"));
            same("two names", "1 | 3 0 1 -1", readings("ncnv"));
            same("three names", "0", readings("ncncnv"));
            same("two joiners", "0", readings("nccnv"));
            same("no joiner", "0", readings("nnv"));
        });
        test("Readings", "or a name, a joiner, and a name.", "nothing but names is joined", () -> {
            same("verbs", "0", readings("nvcv"));
            same("clauses", "0", readings("nvcnv"));
            same("adverbs", "0", readings("nvdcd"));
            same("adjectives", "0", readings("acanv"));
            same("phrases", "0", readings("nvpncpn"));
        });
        test("Readings", "The joiner has the noun of the first name as its head", "a first name with a phrase", () -> {
            same("heads", "2 | 5 0 1 0 3 -1 | 5 0 1 2 3 -1", readings("npncnv"));
            same("a second name with a phrase", "1 | 5 0 1 2 3 -1", readings("ncnpnv"));
        });
        test("Readings", "and is the head of the noun of the second name.", "a second name with an adjective", () ->
            same("heads", "1 | 4 0 3 1 -1", readings("ncanv")));
    }

    private static void names() {
        test("Readings", "A name is any number of adjectives, a noun, and any number of phrases.", "adjectives", () -> {
            same("none", "1 | 1 -1", readings("nv"));
            same("one", "1 | 1 2 -1", readings("anv"));
            same("ten", "1 | 10 10 10 10 10 10 10 10 10 10 11 -1", readings("aaaaaaaaaanv"));
            same("no noun", "0", readings("av"));
            same("behind the noun", "0", readings("nav"));
            same("behind an adverb", "0", readings("danv"));
        });
        test("Readings", "and any number of phrases.", "none, one, five", () -> {
            same("one", "1 | 3 0 1 -1", readings("npnv"));
            same("five", 42, slate("npnpnpnpnpnv").count(1));
            same("ahead of the noun", "0", readings("pnnv"));
        });
        test("Readings", "The noun is the head of all of these.", "adjectives and phrases", () ->
            same("heads", "2 | 2 2 7 2 3 2 5 -1 | 2 2 7 2 3 4 5 -1", readings("aanpnpnv")));
    }

    private static void headsOfParts() {
        test("Readings", "The verb is the head of the group (as its subject), of the object, and of each hanging.",
            "all of them", () -> same("heads", "1 | 1 -1 1 1 1 4", readings("nvndpn")));
        test("Readings", "The preposition is the head of the group.", "a group with an adjective", () ->
            same("heads", "1 | 1 -1 1 4 2", readings("nvpan")));
        test("Readings", "The head of a group is that of the noun of its (first) name", "subject, object, phrase",
            () -> {
                same("subject", "1 | 3 0 1 -1", readings("ncnv"));
                same("object", "1 | 1 -1 1 2 3", readings("nvncn"));
                same("phrase", "1 | 1 -1 1 2 3 4", readings("nvpncn"));
            });
        test("Readings", "that of a phrase is that of its preposition", "on a noun, on a verb", () ->
            same("heads", "2 | 1 -1 1 1 3 | 1 -1 1 2 3", readings("nvnpn")));
        test("Readings", "that of an object with an opener is that of the opener", "within another one", () ->
            same("heads", "1 | 1 -1 1 4 2 4 7 5", readings("nvtnvtnv")));
        test("Readings", "which is the head of the verb of the clause behind it.", "with an object", () ->
            same("heads", "1 | 1 -1 1 4 2 4", readings("nvtnvn")));
        test("Readings", "The verb of the whole clause has no head: it is the root.", "of two verbs the first", () -> {
            SlantSlate slate = slate("nvtnv");
            same("the first one", "-1 0", slate.wordOf(1, 1) + " " + slate.wordOf(1, 2));
            same("the second one", "2 5", slate.wordOf(4, 1) + " " + slate.wordOf(4, 2));
        });
    }

    private static void orderOfReadings() {
        String order = "that has the lesser head (the root has -1) at the first word at which their heads are unlike";
        test("Readings", order, "the first unlike word, not a later one", () -> same("heads",
            "5 | 1 -1 1 1 3 1 5 | 1 -1 1 1 3 4 5 | 1 -1 1 2 3 1 5 | 1 -1 1 2 3 2 5 | 1 -1 1 2 3 4 5",
            readings("nvnpnpn")));
        test("Readings", order, "the last word alone", () -> same("heads",
            "2 | 1 -1 1 4 2 1 | 1 -1 1 4 2 4", readings("nvtnvd")));
        test("Readings", order, "heads of two figures are numbers", () -> {
            StringBuilder heads = new StringBuilder();
            SlantSlate slate = slate("nvtnvtaaanvd");
            for (int rank = 0; rank < 3; rank++) {
                slate.draw(rank);
                heads.append(slate.wordOf(11, 1)).append(' ');
            }
            same("heads of the adverb", "1 4 10 ", heads.toString());
        });
        test("Readings", order, "all 42 of the most that 12 words have", () -> {
            SlantSlate slate = slate("nvnpnpnpnpnd");
            String before = "";
            for (int rank = 0; rank < slate.count(1); rank++) {
                slate.draw(rank);
                StringBuilder heads = new StringBuilder();
                for (int word = 3; word <= 9; word += 2) {
                    heads.append(slate.wordOf(word, 1));
                }
                same("reading " + rank + " is behind " + before, true, heads.toString().compareTo(before) > 0);
                before = heads.toString();
            }
            same("the last one", "2468", before);
        });
    }

    private static void waysOfHolding() {
        held("0 as the root", "nvtnv", 1, 0);
        held("1 as a subject", "nvtnv", 3, 1);
        held("2 as an object", "nvtnvn", 5, 2);
        held("3 on a slant (an adjective, an adverb, a preposition)", "anv", 0, 3);
        held("3 on a slant (an adjective, an adverb, a preposition)", "nvd", 2, 3);
        held("3 on a slant (an adjective, an adverb, a preposition)", "npnv", 1, 3);
        held("4 by a dash (a joiner, and the noun behind it)", "ncnv", 1, 4);
        held("4 by a dash (a joiner, and the noun behind it)", "nvncn", 4, 4);
        held("5 on a stilt (an opener, and the verb behind it)", "nvtnv", 2, 5);
        held("5 on a stilt (an opener, and the verb behind it)", "nvtnv", 4, 5);
        held("6 as the noun of a phrase.", "nvpn", 3, 6);
    }

    private static void held(String sentence, String words, int word, int due) {
        test("Readings", sentence, "word " + word + " of " + words, () ->
            same("held", due, slate(words).wordOf(word, 2)));
    }

    private static void newObject() {
        test("Promise 1", "Creates a slate without words", "nothing to look at", () -> {
            same("numbers", "0 0 0 0 -1 0 0 0 0", numbers(new SlantSlate()));
            refused("wordOf(0, 0)", Edges::wordless, RANGE, slate -> slate.wordOf(0, 0));
        });
        test("Promise 1", "with empty slots", "both", () -> {
            refused("goBack(0)", Edges::wordless, STATE, slate -> slate.goBack(0));
            refused("goBack(1)", Edges::wordless, STATE, slate -> slate.goBack(1));
        });
        test("Promise 1", "and an empty buffer.", "no character in it", () -> {
            same("clearBuffer()", 0, new SlantSlate().clearBuffer());
            same("append(33)", 1, new SlantSlate().append(33));
        });
        test("Promise 1", "Creates a slate without words, with empty slots and an empty buffer.",
            "beside another slate", () -> {
                busy();
                full();
                same("digest", -3272683799750754447L, new SlantSlate().digest());
            });
    }

    private static void adding() {
        test("Promise 2", "Adds a word behind the last one.", "the first, the second, the 12th", () -> {
            SlantSlate slate = new SlantSlate();
            slate.add(6);
            same("one", "t", words(slate));
            slate.add(1);
            same("two", "tv", words(slate));
            SlantSlate eleven = slate("nvaaaaaaaaa");
            eleven.add(0);
            same("twelve", FULL, words(eleven));
        });
        test("Promise 2", "No head is fixed then.", "of a sentence with fixed heads", () -> {
            SlantSlate slate = calm();
            slate.add(3);
            same("fixed", "0 0 0 0 0 0 0 0", row(slate, 6));
            same("left", 5, slate.count(3));
        });
        test("Promise 2", "Undoable.", "with words and without", () -> {
            undoable("add(3)", Edges::calm, slate -> slate.add(3));
            undoable("add(0)", Edges::wordless, slate -> slate.add(0));
            undoable("the 12th", () -> slate("nvaaaaaaaaa"), slate -> slate.add(0));
        });
        test("Promise 2", "kind: 0 to 6", "the least and the greatest", () -> {
            SlantSlate slate = new SlantSlate();
            slate.add(0);
            slate.add(6);
            same("words", "nt", words(slate));
        });
        test("Promise 2", "Returns how many readings the sentence has then.", "none, one, 42", () -> {
            same("none", 0, new SlantSlate().add(0));
            same("one", 1, slate("n").add(1));
            same("42", 42, slate("nvnpnpnpnpn").add(3));
            same("all, not those that were left", 5, calm().add(3));
            same("none any more", 0, slate("nvnpnpnpnpn").add(1));
        });
    }

    private static void addingRefused() {
        test("Promise 2", "Throws IllegalArgumentException if kind is out of range", "just outside, far", () -> {
            for (int kind : NO_KINDS) {
                refused("add(" + kind + ")", Edges::busy, ARGUMENT, slate -> slate.add(kind));
                refused("the first word: add(" + kind + ")", Edges::wordless, ARGUMENT, slate -> slate.add(kind));
            }
        });
        test("Promise 2", "Throws IllegalStateException if it has 12 words", "11, 12, and 11 again", () -> {
            same("the 12th", 1, slate("nvaaaaaaaaa").add(0));
            for (int kind = 0; kind <= 6; kind++) {
                int asked = kind;
                refused("add(" + kind + ")", Edges::full, STATE, slate -> slate.add(asked));
            }
            SlantSlate slate = full();
            slate.wipe(0);
            same("behind wipe()", 0, slate.add(0));
            same("words", "vnpnpnpnpndn", words(slate));
        });
        test("Exceptions", "the one that is named first in the throws clause is thrown", "promise 2: 12 words, no kind",
            () -> {
                for (int kind : NO_KINDS) {
                    refused("add(" + kind + ")", Edges::full, ARGUMENT, slate -> slate.add(kind));
                }
            });
    }

    private static void changing() {
        test("Promise 3", "Changes the kind of a word.", "the first, the last, the only one, the 12th", () -> {
            SlantSlate slate = slate("nvn");
            slate.change(0, 6);
            same("the first", "tvn", words(slate));
            slate.change(2, 3);
            same("the last", "tvd", words(slate));
            SlantSlate one = slate("n");
            one.change(0, 1);
            same("the only one", "v", words(one));
            SlantSlate twelve = slate(FULL);
            twelve.change(11, 5);
            same("the 12th", "nvaaaaaaaaac", words(twelve));
        });
        test("Promise 3", "No head is fixed then.", "also if it has the kind already", () -> {
            SlantSlate slate = calm();
            slate.change(0, 0);
            same("fixed", "0 0 0 0 0 0 0", row(slate, 6));
            same("left", 5, slate.count(3));
        });
        test("Promise 3", "Undoable.", "also if it has the kind already", () -> {
            undoable("change(6, 1)", Edges::calm, slate -> slate.change(6, 1));
            undoable("change(6, 0)", Edges::calm, slate -> slate.change(6, 0));
        });
        test("Promise 3", "word: its number", "each of 12", () -> {
            for (int word = 0; word < 12; word++) {
                SlantSlate slate = slate("nnnnnnnnnnnn");
                slate.change(word, 5);
                same("change(" + word + ", 5)", word, words(slate).indexOf('c'));
            }
        });
        test("Promise 3", "kind: 0 to 6", "the least and the greatest", () -> {
            SlantSlate slate = slate("vv");
            slate.change(0, 0);
            slate.change(1, 6);
            same("words", "nt", words(slate));
        });
        test("Promise 3", "Returns how many readings the sentence has then.", "none, one, some", () -> {
            same("none", 0, slate("nvn").change(1, 0));
            same("one", 1, slate("nnn").change(1, 1));
            same("all, not those that were left", 5, calm().change(1, 1));
            same("42", 42, slate("nvnpnpnpnpnv").change(11, 3));
        });
    }

    private static void changingRefused() {
        test("Promise 3", "Throws IndexOutOfBoundsException if there is no such word", "just outside, far", () -> {
            for (int word : new int[] {-1, 7, LEAST, MOST}) {
                refused("change(" + word + ", 0)", Edges::busy, RANGE, slate -> slate.change(word, 0));
            }
            refused("change(12, 0) of 12", Edges::full, RANGE, slate -> slate.change(12, 0));
            refused("change(0, 0) of none", Edges::wordless, RANGE, slate -> slate.change(0, 0));
        });
        test("Promise 3", "Throws IllegalArgumentException if kind is out of range", "just outside, far", () -> {
            for (int kind : NO_KINDS) {
                refused("change(0, " + kind + ")", Edges::busy, ARGUMENT, slate -> slate.change(0, kind));
                refused("change(11, " + kind + ")", Edges::full, ARGUMENT, slate -> slate.change(11, kind));
            }
        });
        test("Exceptions", "the one that is named first in the throws clause is thrown", "promise 3: no word, no kind",
            () -> {
                refused("change(7, 7)", Edges::busy, RANGE, slate -> slate.change(7, 7));
                refused("change(-1, -1)", Edges::busy, RANGE, slate -> slate.change(-1, -1));
                refused("change(0, 7)", Edges::wordless, RANGE, slate -> slate.change(0, 7));
            });
    }

    private static void wiping() {
        test("Promise 4", "Wipes a word away", "the first, one within, the last, the only one", () -> {
            SlantSlate slate = slate("tvadp");
            slate.wipe(0);
            same("the first", "vadp", words(slate));
            slate.wipe(1);
            same("one within", "vdp", words(slate));
            slate.wipe(2);
            same("the last", "vd", words(slate));
            slate.wipe(1);
            slate.wipe(0);
            same("the only one", "", words(slate));
        });
        test("Promise 4", "those behind it get numbers that are 1 less.", "each of 12", () -> {
            String twelve = "nvadpctnvadp";
            for (int word = 0; word < 12; word++) {
                SlantSlate slate = slate(twelve);
                slate.wipe(word);
                same("wipe(" + word + ")", twelve.substring(0, word) + twelve.substring(word + 1), words(slate));
            }
        });
        test("Promise 4", "No head is fixed then.", "of a word ahead, and of one behind", () -> {
            SlantSlate slate = slate("nvnpndd");
            slate.fix(3, 2);
            slate.fix(6, 1);
            slate.wipe(5);
            same("fixed", "0 0 0 0 0 0", row(slate, 6));
            same("left", 2, slate.count(3));
        });
        test("Promise 4", "Undoable.", "the first, the last, the only one, one of 12", () -> {
            undoable("wipe(0)", Edges::calm, slate -> slate.wipe(0));
            undoable("wipe(6)", Edges::calm, slate -> slate.wipe(6));
            undoable("wipe(0) of one", () -> slate("v"), slate -> slate.wipe(0));
            undoable("wipe(11) of 12", () -> slate(FULL), slate -> slate.wipe(11));
        });
        test("Promise 4", "Returns how many readings the sentence has then.", "none, one, some", () -> {
            same("none", 0, slate("nvn").wipe(0));
            same("no word", 0, slate("v").wipe(0));
            same("one", 1, slate("nvnd").wipe(3));
            same("all, not those that were left", 5, slate("nvnpnpnd").wipe(7));
            same("42", 42, slate("nvnpnpnpnpnd").wipe(11));
        });
    }

    private static void wipingRefused() {
        test("Promise 4", "word: its number", "the last of 12, and the one behind it", () -> {
            SlantSlate slate = slate(FULL);
            same("wipe(11)", 0, slate.wipe(11));
            same("wipe(11) of 11", "throws java.lang.IndexOutOfBoundsException", Check.outcome(() -> slate.wipe(11)));
            same("words", "nvaaaaaaaaa", words(slate));
        });
        test("Promise 4", "Throws IndexOutOfBoundsException if there is no such word", "just outside, far", () -> {
            for (int word : new int[] {-1, 7, LEAST, MOST}) {
                refused("wipe(" + word + ")", Edges::busy, RANGE, slate -> slate.wipe(word));
            }
            refused("wipe(12) of 12", Edges::full, RANGE, slate -> slate.wipe(12));
            refused("wipe(0) of none", Edges::wordless, RANGE, slate -> slate.wipe(0));
        });
    }
}
