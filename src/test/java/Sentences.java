import java.io.IOException;
import java.nio.file.Files;
import java.nio.file.Path;
import java.util.ArrayList;
import java.util.LinkedHashMap;
import java.util.LinkedHashSet;
import java.util.List;
import java.util.Map;
import java.util.Set;
import java.util.function.IntUnaryOperator;
import java.util.stream.IntStream;

/**
 * What the tests of the document's sentences share: which sentence is tested, which answers were due,
 * and boards to begin with. A test takes an object for at most 512 calls.
 */
class Sentences {
    static final int INVALID = -1;
    static final int NOT_POSSIBLE = -2;
    static final int LIMIT = -3;
    static final int NOT_FOUND = -4;
    static final int LEAST = Integer.MIN_VALUE;
    static final int MOST = Integer.MAX_VALUE;

    /** How far from a number lie those that a shift, a byte, a char or a sign would take for it. */
    private static final int[] WRAPS = {32, 64, 256, 65536, -32, -256, -65536, MOST, LEAST};

    private static final Set<String> told = new LinkedHashSet<>();
    private static final Set<String> broken = new LinkedHashSet<>();
    private static String sentence = "";
    private static int row = 0;

    /** Runs the rows of one sentence; the words stand in the document under that heading. */
    static void test(String heading, String words, Runnable rows) {
        sentence = heading + ": " + words;
        row = 0;
        if (!told.add(sentence)) {
            fails("is told twice");
        }
        try {
            rows.run();
        } catch (RuntimeException thrown) {
            fails("threw " + thrown);
        }
        if (row == 0) {
            fails("has no row");
        }
    }

    static void due(int want, int got) {
        row++;
        if (want != got) {
            fails("row " + row + " answered " + got + ", due is " + want);
        }
    }

    /** The call answers the same for each of these arguments. */
    static void each(int want, int[] arguments, IntUnaryOperator call) {
        for (int argument : arguments) {
            due(want, call.applyAsInt(argument));
        }
    }

    private static void fails(String how) {
        broken.add(sentence);
        System.out.println(sentence + "\n    " + how);
    }

    static Set<String> told() {
        return told;
    }

    static Set<String> broken() {
        return broken;
    }

    /** Tells which of the sentences don't stand in the document under their heading. */
    static List<String> notInDocument(Path document) throws IOException {
        Map<String, String> parts = new LinkedHashMap<>();
        String heading = "";
        for (String line : Files.readAllLines(document)) {
            if (line.startsWith("#")) {
                heading = line.replaceAll("^#+ ", "").replaceAll("^(Promise \\d+):.*", "$1");
            } else {
                parts.merge(heading, line.replace("`", "") + " ", String::concat);
            }
        }
        List<String> missing = new ArrayList<>();
        for (String it : told) {
            int colon = it.indexOf(": ");
            if (!parts.getOrDefault(it.substring(0, colon), "").contains(it.substring(colon + 2))) {
                missing.add(it);
            }
        }
        return missing;
    }

    /** Numbers outside the range: next to it, far from it, and those that a wrap-around would put into it. */
    static int[] outside(int low, int high) {
        IntStream near = IntStream.of(low - 1, high + 1, -1, LEAST, MOST);
        IntStream around = IntStream.of(WRAPS).flatMap(wrap -> IntStream.of(low + wrap, high + wrap));
        return IntStream.concat(near, around).filter(k -> k < low || k > high).distinct().toArray();
    }

    static LampRanks ofRanks(int... ranks) {
        LampRanks x = new LampRanks();
        for (int rank : ranks) {
            x.line(0, rank, 0);
        }
        return x;
    }

    static void edges(LampRanks x, int... lines) {
        for (int line : lines) {
            x.edge(line);
        }
    }

    /** Lines of edges on node 0, of these ranks, each lit. */
    static LampRanks litOfRanks(int... ranks) {
        LampRanks x = ofRanks(ranks);
        edges(x, IntStream.range(0, ranks.length).toArray());
        return x;
    }

    /** Lines 0 to 3, of ranks 1 to 4, in service, and line 4, of rank 5, with no edge yet. */
    static LampRanks fourInService() {
        LampRanks x = ofRanks(1, 2, 3, 4, 5);
        for (int line = 0; line < 4; line++) {
            x.edge(line);
            x.take();
        }
        return x;
    }

    static LampRanks sixteenLines(int rank) {
        return ofRanks(IntStream.generate(() -> rank).limit(16).toArray());
    }

    /** Each node hangs on the one before. */
    static LampRanks chain(int turning) {
        LampRanks x = new LampRanks();
        for (int node = 1; node < 6; node++) {
            x.node(node - 1, turning);
        }
        return x;
    }

    static LampRanks atTime(int time) {
        LampRanks x = withText(new LampRanks(), "t99;".repeat(15));
        int now = 0;
        for (; now + 15 * 99 <= time; now += 15 * 99) {
            x.play();
        }
        for (; now < time; now += Math.min(99, time - now)) {
            x.tick(Math.min(99, time - now));
        }
        x.clearText();
        return x;
    }

    static LampRanks withText(LampRanks x, String text) {
        x.clearText();
        text.chars().forEach(x::type);
        return x;
    }

    static void inputs(LampRanks x, int node, int... due) {
        due(due.length, x.nodeOf(node, 2));
        for (int index = 0; index < due.length; index++) {
            due(due[index], x.inputAt(node, index));
        }
        due(NOT_FOUND, x.inputAt(node, due.length));
    }

    static void order(LampRanks x, int... due) {
        for (int index = 0; index < due.length; index++) {
            due(due[index], x.orderAt(index));
        }
        due(NOT_FOUND, x.orderAt(due.length));
    }

    static void fault(LampRanks x, String text, int position, int reason) {
        withText(x, text);
        due(position, x.fault(0));
        due(reason, x.fault(1));
    }

    /** All that a board tells of itself. */
    static List<Integer> everything(LampRanks x) {
        List<Integer> all = new ArrayList<>();
        IntStream.rangeClosed(0, 12).forEach(what -> all.add(x.count(what)));
        IntStream.rangeClosed(0, 5).forEach(what -> all.add(x.lines(what)));
        for (int line = 0; line < all.get(1); line++) {
            for (int what = 0; what <= 11; what++) {
                all.add(x.lineOf(line, what));
            }
        }
        for (int node = 0; node < all.get(0); node++) {
            for (int what = 0; what <= 5; what++) {
                all.add(x.nodeOf(node, what));
            }
            int at = node;
            addAll(all, index -> x.inputAt(at, index));
        }
        all.add(x.next());
        addAll(all, x::orderAt);
        addAll(all, x::serviceAt);
        addAll(all, x::waitingAt);
        all.add(x.fault(0));
        all.add(x.fault(1));
        return all;
    }

    private static void addAll(List<Integer> all, IntUnaryOperator at) {
        int index = 0;
        do {
            all.add(at.applyAsInt(index));
            index++;
        } while (all.get(all.size() - 1) >= 0 && index < 30);
    }
}
