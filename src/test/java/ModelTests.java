import java.util.ArrayDeque;
import java.util.Deque;
import java.util.Random;

/** Runs of calls, the same each time, and all short texts, on the program and on the model; all answers are compared. */
public final class ModelTests {
    private static final int RUNS = 4000;
    private static final int CALLS = 512;
    private static final int[] ODD = {
        -2147483648, -100, -2, -1, 0, 1, 2, 5, 6, 7, 8, 9, 12, 13, 15, 16, 50, 51, 99, 100, 105,
        127, 2147483647
    };

    private static final String SIGNS = "eldxtm,;0129 ";

    private static int wrong = 0;
    private static final long[] answersBelowZero = new long[5];

    private final Random random;
    private final LampRanks program = new LampRanks();
    private final Model model = new Model();
    private final Deque<Integer> toType = new ArrayDeque<>();
    private final StringBuilder told = new StringBuilder();
    private final int ticksUpTo;
    private final int changesOf10;
    private int calls = 0;
    private boolean same = true;

    private ModelTests(int seed) {
        random = new Random(seed);
        ticksUpTo = new int[] {3, 10, 99}[seed % 3];
        changesOf10 = 4 + seed % 5;
    }

    public static void main(String[] args) {
        for (int seed = 0; seed < RUNS && wrong < 10; seed++) {
            new ModelTests(seed).go(seed);
        }
        for (int seed = 0; seed < 40 && wrong < 10; seed++) {
            new ModelTests(seed).goToTheEndOfTime();
        }
        allShortTexts();
        for (int error = 1; error <= 4; error++) {
            if (answersBelowZero[error] < 1000) {
                wrong++;
                System.out.println("the runs hardly meet the error " + -error);
            }
        }
        System.out.println(wrong == 0 ? "all runs are as the model's" : "runs differ: " + wrong);
        if (wrong != 0) {
            System.exit(1);
        }
    }

    private void go(int seed) {
        build(seed);
        while (same && calls < CALLS) {
            if (!toType.isEmpty()) {
                int sign = toType.removeFirst();
                due("type(" + sign + ")", program.type(sign), model.type(sign));
            } else if (random.nextInt(10) < changesOf10) {
                change();
            } else {
                ask();
            }
        }
    }

    /** Plays texts of many ticks, so that the last time is reached within the calls. */
    private void goToTheEndOfTime() {
        build(1);
        for (char sign : "t99;t99;t99;t99;t99;t99;t99;t99;t99;t99;t99;t99;t99;t99;t99;".toCharArray()) {
            due("type(" + (int) sign + ")", program.type(sign), model.type(sign));
        }
        for (int k = 0; k < 34; k++) {
            due("play()", program.play(), model.play());
            due("fault(0)", program.fault(0), model.fault(0));
            due("fault(1)", program.fault(1), model.fault(1));
        }
        while (same && calls < CALLS) {
            change();
            ask();
        }
    }

    /** The faults of all texts of up to five of the signs that have a meaning, and one that has none. */
    private static void allShortTexts() {
        ModelTests board = ofKinds();
        for (int length = 0; length <= 5; length++) {
            int texts = (int) Math.pow(SIGNS.length(), length);
            for (int number = 0; number < texts && wrong < 10; number++) {
                if (board.calls > CALLS - 8) {
                    board = ofKinds();
                }
                board.faultsOf(number, length);
            }
        }
    }

    private void faultsOf(int number, int length) {
        due("clearText()", program.clearText(), model.clearText());
        for (int k = 0, rest = number; k < length; k++, rest /= SIGNS.length()) {
            int sign = SIGNS.charAt(rest % SIGNS.length());
            due("type(" + sign + ")", program.type(sign), model.type(sign));
        }
        due("fault(0)", program.fault(0), model.fault(0));
        due("fault(1)", program.fault(1), model.fault(1));
    }

    /** Line 0 of edges is lit, line 1 of a level is masked, line 2 of edges is in service. */
    private static ModelTests ofKinds() {
        ModelTests it = new ModelTests(0);
        it.due("line(0, 7, 0)", it.program.line(0, 7, 0), it.model.line(0, 7, 0));
        it.due("line(0, 5, 1)", it.program.line(0, 5, 1), it.model.line(0, 5, 1));
        it.due("line(0, 3, 0)", it.program.line(0, 3, 0), it.model.line(0, 3, 0));
        it.due("mask(1, 1)", it.program.mask(1, 1), it.model.mask(1, 1));
        it.due("edge(2)", it.program.edge(2), it.model.edge(2));
        it.due("take()", it.program.take(), it.model.take());
        it.due("edge(0)", it.program.edge(0), it.model.edge(0));
        return it;
    }

    private void due(String call, int answer, int due) {
        calls++;
        told.append("  ").append(call).append(" -> ").append(answer).append('\n');
        if (due < 0) {
            answersBelowZero[-due]++;
        }
        if (answer != due && same) {
            same = false;
            wrong++;
            System.out.println(told + "  due was " + due);
        }
    }

    private void build(int seed) {
        int nodes = seed % 7;
        int lines = seed % 18;
        for (int k = 0; k < nodes + lines; k++) {
            if (random.nextInt(nodes + lines) < nodes) {
                int on = random.nextInt(k + 1) % (model.count(0));
                int turning = random.nextInt(4) == 0 ? 0 : 1;
                due("node(" + on + ", " + turning + ")", program.node(on, turning), model.node(on, turning));
            } else {
                addLine();
            }
        }
    }

    private void addLine() {
        int on = random.nextInt(model.count(0));
        int rank = random.nextInt(3) == 0 ? 3 : random.nextInt(8);
        int level = random.nextInt(3) == 0 ? 1 : 0;
        due("line(" + on + ", " + rank + ", " + level + ")", program.line(on, rank, level), model.line(on, rank, level));
    }

    private int aLine() {
        return odd() ? oddNumber() : random.nextInt(Math.max(1, model.count(1)));
    }

    private int aNode() {
        return odd() ? oddNumber() : random.nextInt(model.count(0));
    }

    private int upTo(int most) {
        return odd() ? oddNumber() : random.nextInt(most + 1);
    }

    private boolean odd() {
        return random.nextInt(25) == 0;
    }

    private int oddNumber() {
        return ODD[random.nextInt(ODD.length)];
    }

    private void change() {
        int a;
        int b;
        switch (random.nextInt(30)) {
            case 0 -> {
                a = aLine();
                b = upTo(1);
                due("mask(" + a + ", " + b + ")", program.mask(a, b), model.mask(a, b));
            }
            case 1 -> {
                a = aNode();
                b = random.nextInt(3) == 0 ? upTo(1) : 0;
                due("maskNode(" + a + ", " + b + ")", program.maskNode(a, b), model.maskNode(a, b));
            }
            case 2 -> {
                a = random.nextInt(3) == 0 ? upTo(8) : 0;
                due("threshold(" + a + ")", program.threshold(a), model.threshold(a));
            }
            case 3 -> {
                a = random.nextInt(3) == 0 ? upTo(50) : upTo(4);
                due("late(" + a + ")", program.late(a), model.late(a));
            }
            case 4 -> {
                if (random.nextInt(4) == 0) {
                    a = aNode();
                    b = upTo(1);
                    due("node(" + a + ", " + b + ")", program.node(a, b), model.node(a, b));
                } else if (random.nextInt(3) == 0) {
                    a = aNode();
                    b = upTo(7);
                    int c = upTo(1);
                    due("line(" + a + ", " + b + ", " + c + ")", program.line(a, b, c), model.line(a, b, c));
                } else {
                    addLine();
                }
            }
            case 5, 6, 7, 8, 9, 10, 11 -> {
                a = aLine();
                due("edge(" + a + ")", program.edge(a), model.edge(a));
            }
            case 12, 13, 14 -> {
                a = aLine();
                b = upTo(1);
                due("level(" + a + ", " + b + ")", program.level(a, b), model.level(a, b));
            }
            case 15, 16, 17, 18 -> due("take()", program.take(), model.take());
            case 19, 20, 21 -> due("done()", program.done(), model.done());
            case 22, 23, 24, 25 -> {
                a = odd() ? oddNumber() : 1 + random.nextInt(ticksUpTo);
                due("tick(" + a + ")", program.tick(a), model.tick(a));
            }
            case 26 -> due("undo()", program.undo(), model.undo());
            case 27 -> {
                due("clearText()", program.clearText(), model.clearText());
                writeText();
            }
            default -> due("play()", program.play(), model.play());
        }
    }

    private void writeText() {
        int events = random.nextInt(7);
        StringBuilder text = new StringBuilder();
        for (int k = 0; k < events; k++) {
            text.append(event());
        }
        if (text.length() > 0 && random.nextInt(4) == 0) {
            int place = random.nextInt(text.length());
            switch (random.nextInt(3)) {
                case 0 -> text.deleteCharAt(place);
                case 1 -> text.insert(place, SIGNS.charAt(random.nextInt(SIGNS.length())));
                default -> text.setCharAt(place, (char) (32 + random.nextInt(95)));
            }
        }
        text.chars().forEach(toType::add);
        if (odd()) {
            toType.add(oddNumber());
        }
    }

    private String event() {
        String ahead = random.nextInt(4) == 0 ? "0" : "";
        int line = random.nextInt(12) == 0 ? random.nextInt(100) : random.nextInt(Math.max(1, model.count(1)));
        String number = line < 10 ? ahead + line : "" + line;
        String bit = ahead + (random.nextInt(12) == 0 ? 2 : random.nextInt(2));
        return switch (random.nextInt(9)) {
            case 0, 1, 2 -> "e" + number + ";";
            case 3 -> "l" + number + "," + bit + ";";
            case 4 -> "m" + number + "," + bit + ";";
            case 5, 6 -> "x;";
            case 7 -> "d;";
            default -> "t" + random.nextInt(ticksUpTo) + ";";
        };
    }

    private void ask() {
        int a;
        int b;
        switch (random.nextInt(16)) {
            case 0, 1, 2, 3 -> {
                a = aLine();
                b = odd() ? oddNumber() : random.nextInt(13);
                due("lineOf(" + a + ", " + b + ")", program.lineOf(a, b), model.lineOf(a, b));
            }
            case 4, 5 -> {
                a = aNode();
                b = odd() ? oddNumber() : random.nextInt(7);
                due("nodeOf(" + a + ", " + b + ")", program.nodeOf(a, b), model.nodeOf(a, b));
            }
            case 6, 7 -> {
                a = aNode();
                b = upTo(6);
                due("inputAt(" + a + ", " + b + ")", program.inputAt(a, b), model.inputAt(a, b));
            }
            case 8 -> due("next()", program.next(), model.next());
            case 9 -> {
                a = upTo(5);
                due("orderAt(" + a + ")", program.orderAt(a), model.orderAt(a));
            }
            case 10 -> {
                a = upTo(4);
                due("serviceAt(" + a + ")", program.serviceAt(a), model.serviceAt(a));
            }
            case 11 -> {
                a = upTo(4);
                due("waitingAt(" + a + ")", program.waitingAt(a), model.waitingAt(a));
            }
            case 12 -> {
                a = odd() ? oddNumber() : random.nextInt(6);
                due("lines(" + a + ")", program.lines(a), model.lines(a));
            }
            case 13, 14 -> {
                a = odd() ? oddNumber() : random.nextInt(13);
                due("count(" + a + ")", program.count(a), model.count(a));
            }
            default -> {
                a = upTo(1);
                due("fault(" + a + ")", program.fault(a), model.fault(a));
            }
        }
    }
}
