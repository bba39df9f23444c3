import java.util.ArrayList;
import java.util.List;
import java.util.Random;

/** Long runs of calls, ordinary and wrong ones, each answered by the class and by the model. */
public final class ModelTest {
    private static final int RUNS = 400;
    private static final int CALLS = 380;
    private static final int LOAD = 0;
    private static final int NO_RANK = -1;
    private static final int[] FAR = {Integer.MIN_VALUE, -21, -2, 12, 13, 20, 100, Integer.MAX_VALUE};
    private static final String[] SENTENCES = {
        "nv", "nvn", "nvnpn", "nvnpnpnpnpn", "nvtnvd", "ncnvncn", "nvnpncnpn", "anvaanpand", "nvtnvtnvddpn",
        "npnpncnpnvdd", "nvtnpnvnpnd", "nvnpnpnpnpnd", "anpncnvtnvpn", "nvncnpncn", "nvdpndpnd", "nvpnpncnpnd",
    };

    private final Random random;
    private final SlantSlate slate = new SlantSlate();
    private final Model model = new Model();
    /** The characters that are appended next; LOAD behind the last one. */
    private final List<Integer> script = new ArrayList<>();

    private ModelTest(long seed) {
        random = new Random(seed);
    }

    public static void main(String[] args) {
        for (int seed = 0; seed < RUNS; seed++) {
            new ModelTest(seed).run(seed);
        }
        Check.end("ModelTest");
    }

    private void run(int seed) {
        int calls = 0;
        while (calls < CALLS) {
            if (script.isEmpty() && random.nextInt(12) == 0) {
                planSentence();
            }
            String told = "run " + seed + " call " + calls + ": ";
            if (!script.isEmpty()) {
                int code = script.remove(0);
                compareCall(told, code == LOAD ? 11 : 7, code, 0, 0);
            } else {
                compareCall(told, pick(), number(), number(), number());
            }
            calls++;
            if (random.nextInt(4) == 0) {
                Check.same(told + "digest", model.digest(), slate.digest());
                calls++;
            }
        }
    }

    /** A text that is loaded then, most often a sentence that can be read. */
    private void planSentence() {
        String text = SENTENCES[random.nextInt(SENTENCES.length)];
        if (random.nextInt(8) == 0) {
            text = text + "ndpx".charAt(random.nextInt(4));
        }
        slate.clearBuffer();
        model.clearBuffer();
        for (char letter : text.toCharArray()) {
            script.add((int) letter);
        }
        script.add(LOAD);
    }

    private int pick() {
        int[] often = {3, 3, 3, 5, 6, 14, 17, 15, 16, 18, 19, 4, 4};
        return random.nextInt(3) == 0 ? often[random.nextInt(often.length)] : random.nextInt(23);
    }

    private int number() {
        int chance = random.nextInt(20);
        if (chance == 0) {
            return FAR[random.nextInt(FAR.length)];
        }
        if (chance < 4) {
            return random.nextInt(2) - 1;
        }
        return chance < 12 ? random.nextInt(6) : random.nextInt(12);
    }

    private void compareCall(String told, int call, int a, int b, int c) {
        if (call == 3 || call == 17) {
            compareHead(told, call, a, b);
            return;
        }
        if (call <= 8) {
            compareSentenceCall(told, call, a, b);
        } else if (call <= 14) {
            compareTextCall(told, call, a);
        } else {
            compareLook(told, call, a, b, c);
        }
    }

    /** The heads that a reading has are asked for more often than those that none has. */
    private void compareHead(String told, int call, int word, int head) {
        int rank = model.count(3) > 0 ? random.nextInt(model.count(3)) : NO_RANK;
        int due = head;
        if (rank != NO_RANK && word >= 0 && word < model.count(0) && random.nextInt(3) > 0) {
            model.draw(rank);
            slate.draw(rank);
            due = model.wordOf(word, 1);
        }
        int asked = due;
        if (call == 3) {
            same(told + "fix(" + word + ", " + asked + ")",
                () -> model.fix(word, asked), () -> slate.fix(word, asked));
        } else {
            same(told + "ifFixed(" + word + ", " + asked + ")",
                () -> model.ifFixed(word, asked), () -> slate.ifFixed(word, asked));
        }
    }

    private void compareSentenceCall(String told, int call, int a, int b) {
        switch (call) {
            case 0: same(told + "add(" + a + ")", () -> model.add(a), () -> slate.add(a)); break;
            case 1: same(told + "change(" + a + ", " + b + ")",
                () -> model.change(a, b), () -> slate.change(a, b)); break;
            case 2: same(told + "wipe(" + a + ")", () -> model.wipe(a), () -> slate.wipe(a)); break;
            case 4: same(told + "loosen(" + a + ")", () -> model.loosen(a), () -> slate.loosen(a)); break;
            case 5: same(told + "draw(" + a + ")", () -> model.draw(a), () -> slate.draw(a)); break;
            case 6: same(told + "flatten()", () -> model.flatten(), () -> slate.flatten()); break;
            default: same(told + "append(" + a + ")", () -> model.append(a), () -> slate.append(a)); break;
        }
    }

    private void compareTextCall(String told, int call, int a) {
        switch (call) {
            case 9: same(told + "clearBuffer()", () -> model.clearBuffer(), () -> slate.clearBuffer()); break;
            case 10: same(told + "firstError()", () -> model.firstError(), () -> slate.firstError()); break;
            case 11: same(told + "load()", () -> model.load(), () -> slate.load()); break;
            case 12: same(told + "write()", () -> model.write(), () -> slate.write()); break;
            case 13: same(told + "keep(" + a + ")", () -> model.keep(a), () -> slate.keep(a)); break;
            default: same(told + "goBack(" + a + ")", () -> model.goBack(a), () -> slate.goBack(a)); break;
        }
    }

    private void compareLook(String told, int call, int a, int b, int c) {
        switch (call) {
            case 15: same(told + "undo()", () -> model.undo(), () -> slate.undo()); break;
            case 16: same(told + "wordOf(" + a + ", " + b + ")",
                () -> model.wordOf(a, b), () -> slate.wordOf(a, b)); break;
            case 18: same(told + "readingOf(" + a + ", " + b + ")",
                () -> model.readingOf(a, b), () -> slate.readingOf(a, b)); break;
            case 19: same(told + "part(" + a + ", " + b + ", " + c + ")",
                () -> model.part(a, b, c), () -> slate.part(a, b, c)); break;
            case 20: same(told + "question()", () -> model.question(), () -> slate.question()); break;
            case 21: same(told + "next()", () -> model.next(), () -> slate.next()); break;
            default: same(told + "count(" + a + ") and sureShare()",
                () -> model.count(a) + " " + model.sureShare(), () -> slate.count(a) + " " + slate.sureShare()); break;
        }
    }

    private void same(String told, Check.Call due, Check.Call got) {
        Check.same(told, Check.outcome(due), Check.outcome(got));
    }
}
