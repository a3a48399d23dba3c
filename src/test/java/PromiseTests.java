import java.util.List;
import java.util.function.ToIntFunction;

/** For each promise of the document, calls with the answers that are due, worked out by hand. */
public final class PromiseTests {
    private static final int INVALID = -1;
    private static final int NOT_POSSIBLE = -2;
    private static final int LIMIT = -3;
    private static final int NOT_FOUND = -4;
    private static final int LEAST = Integer.MIN_VALUE;
    private static final int MOST = Integer.MAX_VALUE;

    private static int promise = 0;
    private static int row = 0;
    private static int wrong = 0;

    public static void main(String[] args) {
        theConstants();
        aNewObject();
        nodes();
        addedLines();
        lineMasks();
        nodeMasks();
        thresholds();
        lateness();
        whatIsToldOfLines();
        waits();
        whatIsToldOfNodes();
        inputs();
        turningInputs();
        edges();
        levels();
        takings();
        readiness();
        endsOfService();
        ticks();
        theLastTime();
        theNextOne();
        theOrder();
        linesInService();
        waitingLines();
        setsOfLines();
        numbers();
        aFullBoard();
        allInputsOnOneNode();
        allAcknowledgesAtOnce();
        theHistory();
        changesAreKept();
        eachChangeIsKept();
        waitsAreKept();
        typing();
        emptying();
        faults();
        plays();
        System.out.println(wrong == 0 ? "all promises hold" : wrong + " answers are not as due");
        if (wrong != 0) {
            System.exit(1);
        }
    }

    private static void promise(int number) {
        promise = number;
        row = 0;
    }

    private static void due(int want, int got) {
        row++;
        if (want != got) {
            wrong++;
            System.out.println("promise " + promise + ", row " + row + ": " + got + ", due is " + want);
        }
    }

    private static void type(LampRanks x, String text) {
        for (int k = 0; k < text.length(); k++) {
            x.type(text.charAt(k));
        }
    }

    private static LampRanks withText(LampRanks x, String text) {
        x.clearText();
        type(x, text);
        return x;
    }

    /** A board with lines of edges on node 0, of these ranks. */
    private static LampRanks ofRanks(int... ranks) {
        LampRanks x = new LampRanks();
        for (int rank : ranks) {
            x.line(0, rank, 0);
        }
        return x;
    }

    private static void theConstants() {
        promise(0);
        due(-1, LampRanks.INVALID_ARGUMENT);
        due(-2, LampRanks.NOT_POSSIBLE);
        due(-3, LampRanks.LIMIT_REACHED);
        due(-4, LampRanks.NOT_FOUND);
    }

    private static void aNewObject() {
        promise(1);
        LampRanks x = new LampRanks();
        int[] due = {1, 0, 0, 0, 0, 0, 0, 0, 0, 3, 0, 0, 0};
        for (int what = 0; what < due.length; what++) {
            due(due[what], x.count(what));
        }
        for (int what = 0; what <= 5; what++) {
            due(0, x.lines(what));
        }
        due(NOT_FOUND, x.nodeOf(0, 0));
        for (int what = 1; what <= 5; what++) {
            due(0, x.nodeOf(0, what));
        }
        due(INVALID, x.nodeOf(1, 1));
        due(INVALID, x.lineOf(0, 0));
        due(NOT_FOUND, x.inputAt(0, 0));
        due(NOT_FOUND, x.next());
        due(NOT_FOUND, x.orderAt(0));
        due(NOT_FOUND, x.serviceAt(0));
        due(NOT_FOUND, x.waitingAt(0));
        due(NOT_FOUND, x.take());
        due(NOT_POSSIBLE, x.done());
        due(NOT_POSSIBLE, x.undo());
        due(NOT_FOUND, x.fault(0));
        due(0, x.clearText());
        x.line(0, 1, 0);
        due(0, new LampRanks().count(1));
    }

    private static void nodes() {
        promise(2);
        LampRanks x = new LampRanks();
        due(INVALID, x.node(1, 0));
        due(INVALID, x.node(-1, 0));
        due(INVALID, x.node(LEAST, 0));
        due(INVALID, x.node(MOST, 0));
        due(INVALID, x.node(0, 2));
        due(INVALID, x.node(0, -1));
        due(0, x.count(11));
        due(1, x.node(0, 1));
        due(2, x.node(1, 0));
        due(INVALID, x.node(3, 0));
        due(3, x.node(1, 1));
        due(4, x.node(3, 0));
        due(5, x.node(4, 1));
        due(LIMIT, x.node(0, 0));
        due(INVALID, x.node(6, 0));
        due(INVALID, x.node(0, 2));
        due(6, x.count(0));
        due(1, x.nodeOf(1, 1));
        due(0, x.nodeOf(2, 1));
        due(1, x.nodeOf(3, 1));
        due(0, x.nodeOf(0, 1));
        due(1, x.nodeOf(3, 0));
        due(3, x.nodeOf(4, 0));
        due(102, x.inputAt(1, 0));
        due(103, x.inputAt(1, 1));
    }

    private static void addedLines() {
        promise(3);
        LampRanks x = new LampRanks();
        x.node(0, 0);
        due(INVALID, x.line(2, 0, 0));
        due(INVALID, x.line(-1, 0, 0));
        due(INVALID, x.line(0, 8, 0));
        due(INVALID, x.line(0, -1, 0));
        due(INVALID, x.line(0, LEAST, 0));
        due(INVALID, x.line(0, 0, 2));
        due(INVALID, x.line(0, 0, -1));
        due(0, x.count(1));
        due(1, x.count(11));
        due(0, x.line(1, 0, 1));
        due(1, x.line(0, 7, 0));
        due(1, x.lineOf(0, 0));
        due(0, x.lineOf(0, 1));
        due(1, x.lineOf(0, 2));
        due(0, x.lineOf(1, 0));
        due(7, x.lineOf(1, 1));
        due(0, x.lineOf(1, 2));
        for (int number = 2; number < 16; number++) {
            due(number, x.line(1, 3, 0));
        }
        due(LIMIT, x.line(1, 3, 0));
        due(INVALID, x.line(1, 8, 0));
        due(16, x.count(1));
        due(15, x.nodeOf(1, 2));
        due(15, x.inputAt(1, 14));
    }

    private static void lineMasks() {
        promise(4);
        LampRanks x = ofRanks(1, 2);
        due(INVALID, x.mask(2, 1));
        due(INVALID, x.mask(-1, 1));
        due(INVALID, x.mask(0, 2));
        due(INVALID, x.mask(0, -1));
        due(NOT_POSSIBLE, x.mask(0, 0));
        due(2, x.count(11));
        due(1, x.mask(1, 1));
        due(NOT_POSSIBLE, x.mask(1, 1));
        due(2, x.mask(0, 1));
        due(1, x.mask(1, 0));
        due(0, x.lineOf(1, 5));
        due(1, x.lineOf(0, 5));
        due(1, x.edge(0));
        due(NOT_FOUND, x.next());
        due(0, x.mask(0, 0));
        due(0, x.next());
        x.mask(0, 1);
        x.maskNode(0, 1);
        due(0, x.mask(0, 0));
    }

    private static void nodeMasks() {
        promise(5);
        LampRanks x = new LampRanks();
        x.node(0, 0);
        x.node(1, 0);
        x.node(0, 0);
        x.line(2, 1, 0);
        x.line(1, 2, 0);
        x.line(3, 3, 0);
        x.edge(0);
        x.edge(1);
        x.edge(2);
        due(INVALID, x.maskNode(4, 1));
        due(INVALID, x.maskNode(-1, 1));
        due(INVALID, x.maskNode(0, 2));
        due(INVALID, x.maskNode(0, -1));
        due(NOT_POSSIBLE, x.maskNode(1, 0));
        due(2, x.maskNode(1, 1));
        due(NOT_POSSIBLE, x.maskNode(1, 1));
        due(4, x.lines(1));
        due(3, x.lines(5));
        due(0, x.lines(4));
        due(1, x.nodeOf(1, 3));
        due(0, x.nodeOf(2, 3));
        due(1, x.maskNode(2, 1));
        due(2, x.maskNode(1, 0));
        due(6, x.lines(1));
        due(1, x.maskNode(2, 0));
        due(3, x.maskNode(0, 1));
        due(0, x.lines(1));
        due(3, x.maskNode(0, 0));
        due(7, x.lines(1));
        due(1, x.maskNode(3, 1));
        due(0, x.nodeOf(0, 3));
    }

    private static void thresholds() {
        promise(6);
        LampRanks x = ofRanks(7, 3, 0);
        x.edge(0);
        x.edge(1);
        x.edge(2);
        due(INVALID, x.threshold(9));
        due(INVALID, x.threshold(-1));
        due(INVALID, x.threshold(MOST));
        due(0, x.threshold(3));
        due(3, x.lines(1));
        due(3, x.threshold(4));
        due(1, x.lines(1));
        due(4, x.threshold(8));
        due(NOT_FOUND, x.next());
        due(8, x.threshold(8));
        due(8, x.threshold(7));
        due(0, x.next());
        due(7, x.threshold(0));
        due(7, x.lines(1));
    }

    private static void lateness() {
        promise(7);
        LampRanks x = ofRanks(1, 2);
        due(INVALID, x.late(51));
        due(INVALID, x.late(-1));
        due(3, x.late(50));
        due(50, x.late(2));
        x.edge(0);
        x.edge(1);
        x.take();
        x.done();
        due(2, x.late(5));
        due(2, x.lineOf(1, 11));
        x.take();
        due(5, x.late(4));
        x.done();
        due(4, x.lineOf(0, 11));
        due(4, x.late(0));
        due(4, x.lineOf(0, 11));
        due(2, x.lineOf(1, 11));
        due(0, x.late(0));
    }

    private static void whatIsToldOfLines() {
        promise(8);
        LampRanks x = new LampRanks();
        x.node(0, 0);
        x.line(1, 4, 0);
        x.line(0, 5, 1);
        due(INVALID, x.lineOf(2, 0));
        due(INVALID, x.lineOf(-1, 0));
        due(INVALID, x.lineOf(0, 12));
        due(INVALID, x.lineOf(0, -1));
        due(INVALID, x.lineOf(2, 10));
        tell(x, 0, 1, 4, 0, 0, 0, 0, 0, 0, 0, 0, NOT_FOUND, NOT_FOUND);
        tell(x, 1, 0, 5, 1, 0, 0, 0, 0, 0, 0, 0, NOT_FOUND, NOT_FOUND);
        x.edge(0);
        x.edge(0);
        x.level(1, 1);
        tell(x, 0, 1, 4, 0, 1, 0, 0, 1, 2, 1, 0, NOT_FOUND, NOT_FOUND);
        tell(x, 1, 0, 5, 1, 1, 0, 0, 1, 0, 0, 0, NOT_FOUND, NOT_FOUND);
        x.take();
        tell(x, 0, 1, 4, 0, 1, 0, 0, 0, 2, 1, 0, NOT_FOUND, NOT_FOUND);
        tell(x, 1, 0, 5, 1, 1, 1, 0, 0, 0, 0, 1, NOT_FOUND, NOT_FOUND);
        x.done();
        x.take();
        x.tick(1);
        x.mask(1, 1);
        tell(x, 0, 1, 4, 0, 0, 1, 0, 0, 2, 1, 1, 0, NOT_FOUND);
        tell(x, 1, 0, 5, 1, 1, 2, 1, 0, 0, 0, 1, NOT_FOUND, 2);
    }

    private static void tell(LampRanks x, int line, int... due) {
        for (int what = 0; what < due.length; what++) {
            due(due[what], x.lineOf(line, what));
        }
    }

    private static void waits() {
        promise(8);
        LampRanks x = ofRanks(2);
        x.late(0);
        x.tick(9);
        x.edge(0);
        x.tick(4);
        x.edge(0);
        x.tick(3);
        due(NOT_FOUND, x.lineOf(0, 10));
        x.take();
        due(7, x.lineOf(0, 10));
        x.tick(20);
        due(7, x.lineOf(0, 10));
        x.edge(0);
        x.tick(30);
        due(7, x.lineOf(0, 10));
        x.done();
        due(0, x.take());
        due(30, x.lineOf(0, 10));
        x.done();
        x.edge(0);
        x.tick(5);
        due(0, x.take());
        due(30, x.lineOf(0, 10));
        due(3, x.lineOf(0, 9));
        due(4, x.lineOf(0, 7));
        due(1, x.lineOf(0, 8));
    }

    private static void whatIsToldOfNodes() {
        promise(9);
        LampRanks x = new LampRanks();
        x.node(0, 1);
        x.node(1, 0);
        x.line(0, 1, 0);
        x.line(2, 2, 1);
        x.line(1, 3, 0);
        due(INVALID, x.nodeOf(3, 0));
        due(INVALID, x.nodeOf(-1, 0));
        due(INVALID, x.nodeOf(0, 6));
        due(INVALID, x.nodeOf(0, -1));
        due(NOT_FOUND, x.nodeOf(0, 0));
        due(0, x.nodeOf(1, 0));
        due(1, x.nodeOf(2, 0));
        due(0, x.nodeOf(0, 1));
        due(1, x.nodeOf(1, 1));
        due(2, x.nodeOf(0, 2));
        due(2, x.nodeOf(1, 2));
        due(1, x.nodeOf(2, 2));
        due(3, x.nodeOf(0, 4));
        due(2, x.nodeOf(1, 4));
        due(1, x.nodeOf(2, 4));
        due(0, x.nodeOf(0, 5));
        x.edge(0);
        x.level(1, 1);
        due(3, x.nodeOf(0, 5));
        due(2, x.nodeOf(1, 5));
        x.edge(2);
        due(6, x.nodeOf(1, 5));
        due(2, x.nodeOf(2, 5));
        x.maskNode(2, 1);
        due(1, x.nodeOf(2, 3));
        due(0, x.nodeOf(1, 3));
        due(2, x.nodeOf(2, 5));
    }

    private static void inputs() {
        promise(10);
        LampRanks x = new LampRanks();
        x.line(0, 1, 0);
        x.node(0, 1);
        x.line(0, 1, 0);
        x.line(1, 1, 0);
        due(0, x.inputAt(0, 0));
        due(101, x.inputAt(0, 1));
        due(1, x.inputAt(0, 2));
        due(2, x.inputAt(1, 0));
        due(NOT_FOUND, x.inputAt(0, 3));
        due(NOT_FOUND, x.inputAt(1, 1));
        due(NOT_FOUND, x.inputAt(0, MOST));
        due(INVALID, x.inputAt(0, -1));
        due(INVALID, x.inputAt(0, LEAST));
        due(INVALID, x.inputAt(2, 0));
        due(INVALID, x.inputAt(-1, 0));
        due(INVALID, x.inputAt(100, 0));
    }

    private static void turningInputs() {
        promise(13);
        LampRanks x = new LampRanks();
        x.node(0, 1);
        x.node(1, 0);
        x.node(1, 1);
        x.line(1, 4, 0);
        x.line(2, 4, 0);
        x.line(2, 4, 0);
        x.line(3, 4, 0);
        x.line(3, 4, 0);
        x.line(0, 4, 0);
        x.late(0);
        for (int line = 0; line <= 5; line++) {
            x.edge(line);
        }
        // Node 0: 101, 5; node 1: 102, 103, 0; node 2: 1, 2; node 3: 3, 4.
        due(1, x.take());
        inputsOf(x, 0, 101, 5);
        inputsOf(x, 1, 103, 0, 102);
        inputsOf(x, 2, 1, 2);
        x.done();
        inputsOf(x, 1, 103, 0, 102);
        due(3, x.take());
        x.done();
        inputsOf(x, 1, 0, 102, 103);
        inputsOf(x, 3, 4, 3);
        due(0, x.take());
        x.done();
        inputsOf(x, 1, 102, 103, 0);
        due(2, x.take());
        x.done();
        inputsOf(x, 2, 1, 2);
        due(4, x.take());
        x.done();
        due(5, x.take());
        inputsOf(x, 0, 101, 5);
    }

    private static void inputsOf(LampRanks x, int node, int... due) {
        for (int index = 0; index < due.length; index++) {
            due(due[index], x.inputAt(node, index));
        }
        due(NOT_FOUND, x.inputAt(node, due.length));
    }

    private static void edges() {
        promise(11);
        LampRanks x = ofRanks(3);
        x.line(0, 4, 1);
        due(INVALID, x.edge(2));
        due(INVALID, x.edge(-1));
        due(INVALID, x.edge(MOST));
        due(NOT_POSSIBLE, x.edge(1));
        due(0, x.count(3));
        due(1, x.edge(0));
        due(0, x.edge(0));
        due(0, x.edge(0));
        due(3, x.lineOf(0, 7));
        due(2, x.lineOf(0, 8));
        x.take();
        due(0, x.lineOf(0, 3));
        due(1, x.edge(0));
        due(0, x.edge(0));
        x.done();
        due(0, x.edge(0));
        x.mask(0, 1);
        x.tick(3);
        x.mask(0, 0);
        due(0, x.take());
        due(6, x.lineOf(0, 7));
        due(4, x.lineOf(0, 8));
    }

    private static void levels() {
        promise(12);
        LampRanks x = ofRanks(3);
        x.line(0, 4, 1);
        x.line(0, 5, 1);
        due(INVALID, x.level(3, 1));
        due(INVALID, x.level(-1, 1));
        due(INVALID, x.level(1, 2));
        due(INVALID, x.level(1, -1));
        due(INVALID, x.level(0, 2));
        due(NOT_POSSIBLE, x.level(0, 1));
        due(NOT_POSSIBLE, x.level(0, 0));
        due(NOT_POSSIBLE, x.level(1, 0));
        due(1, x.level(1, 1));
        due(NOT_POSSIBLE, x.level(1, 1));
        x.edge(0);
        due(3, x.level(2, 1));
        due(2, x.level(1, 0));
        due(2, x.take());
        due(1, x.lineOf(2, 3));
        due(NOT_POSSIBLE, x.level(2, 1));
        x.done();
        due(0, x.take());
        x.done();
        x.tick(3);
        due(2, x.take());
        due(0, x.level(2, 0));
        due(1, x.lineOf(2, 4));
        due(1, x.level(2, 1));
    }

    private static void takings() {
        promise(13);
        LampRanks x = ofRanks(1, 2, 3, 4, 5);
        due(NOT_FOUND, x.take());
        for (int line = 0; line < 4; line++) {
            x.edge(line);
            due(line, x.take());
        }
        due(LIMIT, x.take());
        x.edge(4);
        due(4, x.next());
        due(LIMIT, x.take());
        due(4, x.count(6));
        due(1, x.lineOf(4, 3));
        x.done();
        due(4, x.take());
        due(1, x.lineOf(4, 4));
        due(0, x.lineOf(4, 3));
        due(1, x.lineOf(4, 9));
        due(5, x.count(6));
    }

    private static void readiness() {
        promise(13);
        LampRanks x = ofRanks(3, 3, 4);
        x.edge(0);
        x.edge(1);
        due(0, x.take());
        due(NOT_FOUND, x.take());
        x.edge(2);
        due(2, x.take());
        x.edge(2);
        due(NOT_FOUND, x.take());
        x.done();
        // Line 2 is lit, but waits; line 1 is not above line 0.
        due(NOT_FOUND, x.take());
        x.done();
        due(1, x.take());
        x.tick(2);
        due(NOT_FOUND, x.take());
        x.tick(1);
        due(2, x.take());
        x.done();
        x.done();
        // Of several with the highest rank the first one in the tree, not the one lit first.
        LampRanks y = ofRanks(2, 6, 6);
        y.edge(2);
        y.edge(0);
        y.edge(1);
        due(1, y.take());
    }

    private static void endsOfService() {
        promise(14);
        LampRanks x = ofRanks(1, 2, 3);
        due(NOT_POSSIBLE, x.done());
        x.edge(0);
        x.take();
        x.edge(2);
        x.take();
        due(2, x.done());
        due(2, x.lineOf(2, 4));
        due(3, x.lineOf(2, 11));
        x.edge(1);
        due(1, x.take());
        due(1, x.done());
        x.late(0);
        due(0, x.done());
        due(NOT_POSSIBLE, x.done());
        due(0, x.lineOf(0, 4));
        due(NOT_FOUND, x.lineOf(0, 11));
        due(1, x.count(10));
        due(2, x.lineOf(1, 4));
        due(1, x.lineOf(2, 9));
    }

    private static void ticks() {
        promise(15);
        LampRanks x = ofRanks(1, 2, 3);
        due(INVALID, x.tick(0));
        due(INVALID, x.tick(-1));
        due(INVALID, x.tick(100));
        due(INVALID, x.tick(MOST));
        due(0, x.tick(99));
        due(99, x.count(2));
        for (int line = 0; line < 3; line++) {
            x.edge(line);
            x.take();
        }
        x.done();
        x.tick(1);
        x.done();
        x.late(7);
        x.done();
        due(0, x.tick(1));
        due(1, x.tick(1));
        due(0, x.lineOf(2, 4));
        due(2, x.lineOf(1, 4));
        due(1, x.tick(1));
        due(4, x.lineOf(0, 11));
        due(1, x.tick(99));
        due(3, x.count(10));
        due(0, x.tick(99));
    }

    private static void theLastTime() {
        promise(15);
        LampRanks x = new LampRanks();
        type(x, "t99;t99;t99;t99;t99;t99;t99;t99;t99;t99;t99;t99;t99;t99;t99;");
        due(60, x.count(12));
        for (int k = 0; k < 33; k++) {
            due(15, x.play());
        }
        due(49005, x.count(2));
        due(40, x.fault(0));
        due(3, x.fault(1));
        due(NOT_POSSIBLE, x.play());
        for (int k = 0; k < 10; k++) {
            x.tick(99);
        }
        due(LIMIT, x.tick(6));
        due(INVALID, x.tick(100));
        due(49995, x.count(2));
        due(0, x.tick(5));
        due(50000, x.count(2));
        due(LIMIT, x.tick(1));
        due(INVALID, x.tick(0));
        due(3, x.undo());
        due(0, x.tick(4));
        due(49999, x.count(2));
    }

    private static void theNextOne() {
        promise(16);
        LampRanks x = ofRanks(1, 2, 3, 4, 7, 7);
        due(NOT_FOUND, x.next());
        for (int line = 0; line < 4; line++) {
            x.edge(line);
            due(line, x.next());
            due(line, x.next());
            x.take();
        }
        due(NOT_FOUND, x.next());
        x.edge(5);
        due(5, x.next());
        x.edge(4);
        due(4, x.next());
        due(4, x.count(11));
        // The tree goes through a node's inputs ahead of the next input.
        LampRanks y = new LampRanks();
        y.node(0, 0);
        y.line(0, 5, 0);
        y.node(1, 0);
        y.line(1, 5, 0);
        y.line(2, 5, 0);
        for (int line = 0; line < 3; line++) {
            y.edge(line);
        }
        due(2, y.next());
        y.mask(2, 1);
        due(1, y.next());
        y.maskNode(1, 1);
        due(0, y.next());
    }

    private static void theOrder() {
        promise(17);
        LampRanks x = new LampRanks();
        x.node(0, 1);
        x.line(1, 4, 0);
        x.line(1, 4, 1);
        x.line(1, 6, 0);
        x.node(1, 1);
        x.line(2, 4, 0);
        x.line(2, 4, 0);
        due(NOT_FOUND, x.orderAt(0));
        due(INVALID, x.orderAt(-1));
        due(INVALID, x.orderAt(LEAST));
        x.level(1, 1);
        for (int line : new int[] {0, 2, 3, 4}) {
            x.edge(line);
        }
        order(x, 2, 0, 1, 3, 4);
        due(NOT_FOUND, x.orderAt(15));
        due(NOT_FOUND, x.orderAt(16));
        due(NOT_FOUND, x.orderAt(MOST));
        due(31, x.lines(0));
        due(0, x.inputAt(1, 0));
        x.take();
        order(x);
        x.done();
        order(x, 0, 1, 3, 4);
        x.take();
        x.done();
        // Node 1 now has 1, 102, 2, 0.
        x.mask(1, 1);
        x.tick(3);
        x.edge(0);
        order(x, 3, 0, 4);
        x.threshold(5);
        order(x);
        x.threshold(0);
        x.maskNode(2, 1);
        order(x, 0);
        x.maskNode(1, 1);
        order(x);
        LampRanks y = ofRanks(1, 2, 3, 4, 5, 6, 6);
        for (int line = 0; line < 4; line++) {
            y.edge(line);
            y.take();
        }
        for (int line = 0; line < 7; line++) {
            y.edge(line);
        }
        order(y, 5, 6, 4);
        allInOrder();
    }

    private static void allInOrder() {
        LampRanks x = new LampRanks();
        for (int line = 0; line < 16; line++) {
            x.line(0, line % 8, 0);
            x.edge(line);
        }
        order(x, 7, 15, 6, 14, 5, 13, 4, 12, 3, 11, 2, 10, 1, 9, 0, 8);
    }

    private static void order(LampRanks x, int... due) {
        for (int index = 0; index < due.length; index++) {
            due(due[index], x.orderAt(index));
        }
        due(NOT_FOUND, x.orderAt(due.length));
    }

    private static void linesInService() {
        promise(18);
        LampRanks x = ofRanks(5, 3, 1, 7);
        due(NOT_FOUND, x.serviceAt(0));
        due(INVALID, x.serviceAt(-1));
        due(INVALID, x.serviceAt(LEAST));
        for (int line : new int[] {2, 1, 0, 3}) {
            x.edge(line);
            x.take();
        }
        due(3, x.serviceAt(0));
        due(0, x.serviceAt(1));
        due(1, x.serviceAt(2));
        due(2, x.serviceAt(3));
        due(NOT_FOUND, x.serviceAt(4));
        due(NOT_FOUND, x.serviceAt(MOST));
        x.done();
        due(0, x.serviceAt(0));
        due(NOT_FOUND, x.serviceAt(3));
    }

    private static void waitingLines() {
        promise(19);
        LampRanks x = ofRanks(1, 2, 3, 4);
        due(NOT_FOUND, x.waitingAt(0));
        due(INVALID, x.waitingAt(-1));
        for (int line = 0; line < 4; line++) {
            x.edge(line);
            x.take();
        }
        x.late(9);
        x.done();
        x.late(5);
        x.done();
        x.tick(2);
        x.late(7);
        x.done();
        x.late(3);
        x.done();
        // Due are 3 at 9, 2 at 5, 1 at 9, 0 at 5.
        int[] due = {2, 0, 3, 1, NOT_FOUND};
        for (int index = 0; index < due.length; index++) {
            due(due[index], x.waitingAt(index));
        }
        due(NOT_FOUND, x.waitingAt(MOST));
        due(INVALID, x.waitingAt(LEAST));
        due(0, x.tick(2));
        due(2, x.tick(1));
        due(3, x.waitingAt(0));
        due(4, x.lineOf(1, 11));
        due(2, x.tick(4));
        due(NOT_FOUND, x.waitingAt(0));
    }

    private static void setsOfLines() {
        promise(20);
        LampRanks x = new LampRanks();
        x.node(0, 0);
        x.line(0, 1, 0);
        x.line(0, 2, 1);
        x.line(0, 3, 0);
        x.line(1, 4, 0);
        x.line(0, 5, 0);
        due(INVALID, x.lines(6));
        due(INVALID, x.lines(-1));
        due(INVALID, x.lines(MOST));
        due(INVALID, x.lines(LEAST));
        x.edge(0);
        x.take();
        x.level(1, 1);
        x.take();
        x.edge(2);
        x.edge(3);
        x.edge(4);
        due(4, x.take());
        x.done();
        x.maskNode(1, 1);
        x.mask(4, 1);
        due(2 + 4 + 8, x.lines(0));
        due(4, x.lines(1));
        due(1 + 2, x.lines(2));
        due(16, x.lines(3));
        due(16, x.lines(4));
        due(8 + 16, x.lines(5));
        LampRanks y = new LampRanks();
        for (int line = 0; line < 16; line++) {
            y.line(0, 0, 0);
            y.edge(line);
        }
        due(65535, y.lines(0));
        due(65535, y.lines(1));
        y.take();
        due(65534, y.lines(0));
        due(0, y.lines(1));
    }

    private static void numbers() {
        promise(21);
        LampRanks x = ofRanks(1, 2);
        x.line(0, 3, 1);
        x.node(0, 1);
        due(INVALID, x.count(13));
        due(INVALID, x.count(-1));
        due(INVALID, x.count(MOST));
        x.edge(0);
        x.edge(0);
        x.edge(1);
        x.take();
        x.edge(1);
        x.edge(1);
        x.level(2, 1);
        x.take();
        x.done();
        x.done();
        x.tick(3);
        x.take();
        x.done();
        x.late(12);
        x.threshold(6);
        type(x, "e0 ");
        int[] due = {2, 3, 3, 5, 2, 2, 1, 2, 6, 12, 2, 4, 3};
        for (int what = 0; what < due.length; what++) {
            due(due[what], x.count(what));
        }
        x.threshold(0);
        x.take();
        due(2, x.count(6));
        due(1, x.count(5));
        LampRanks y = new LampRanks();
        y.line(0, 1, 1);
        y.level(0, 1);
        due(0, y.count(5));
    }

    /** With 16 lines and 6 nodes all is told, and no call throws. */
    private static void aFullBoard() {
        promise(21);
        LampRanks x = new LampRanks();
        for (int node = 1; node < 6; node++) {
            x.node(node - 1, 1);
        }
        for (int line = 0; line < 16; line++) {
            x.line(5, line % 8, line < 8 ? 0 : 1);
        }
        for (int line = 0; line < 8; line++) {
            due(1, x.edge(line));
            due(2 * line + 2, x.level(8 + line, 1));
        }
        for (int what = 0; what <= 5; what++) {
            due(what < 2 ? 65535 : 0, x.lines(what));
        }
        int[] due = {6, 16, 0, 8, 0, 8, 0, 0, 0, 3, 0, 4, 0};
        for (int what = 0; what < due.length; what++) {
            due(due[what], x.count(what));
        }
        due(7, x.take());
        due(NOT_FOUND, x.orderAt(0));
        due(16, x.maskNode(5, 1));
        due(65535, x.lines(5));
        due(16, x.nodeOf(5, 4));
        due(65535 - 128, x.nodeOf(0, 5));
        for (int line = 0; line < 16; line++) {
            due(line + 1, x.mask(line, 1));
        }
        due(65535, x.lines(4));
    }

    /** One node can have all 16 lines and the 5 other nodes as its inputs. */
    private static void allInputsOnOneNode() {
        promise(10);
        LampRanks x = new LampRanks();
        for (int node = 1; node < 6; node++) {
            x.node(0, 0);
        }
        for (int line = 0; line < 16; line++) {
            due(line, x.line(0, 2, 0));
        }
        due(21, x.nodeOf(0, 2));
        due(101, x.inputAt(0, 0));
        due(15, x.inputAt(0, 20));
        due(NOT_FOUND, x.inputAt(0, 21));
        x.edge(15);
        due(15, x.next());
        due(15, x.orderAt(0));
        due(15, x.take());
        // The same on a turning node, which has at most 16 lines and 4 nodes; its order turns.
        LampRanks y = new LampRanks();
        y.node(0, 1);
        for (int node = 2; node < 6; node++) {
            y.node(1, 0);
        }
        for (int line = 0; line < 16; line++) {
            y.line(1, 2, 0);
        }
        y.edge(0);
        due(0, y.take());
        due(20, y.nodeOf(1, 2));
        due(0, y.inputAt(1, 19));
        due(1, y.inputAt(1, 4));
        due(105, y.inputAt(1, 3));
    }

    private static void allAcknowledgesAtOnce() {
        promise(15);
        LampRanks x = new LampRanks();
        x.late(50);
        for (int line = 0; line < 16; line++) {
            x.line(0, 2, 0);
            x.edge(line);
            due(line, x.take());
            due(line, x.done());
        }
        due(65535, x.lines(3));
        for (int index = 0; index < 16; index++) {
            due(index, x.waitingAt(index));
        }
        due(NOT_FOUND, x.waitingAt(16));
        due(0, x.tick(49));
        due(16, x.tick(1));
        due(0, x.lines(3));
        due(16, x.count(10));
    }

    private static void theHistory() {
        promise(22);
        LampRanks x = new LampRanks();
        due(NOT_POSSIBLE, x.undo());
        x.line(0, 1, 0);
        due(0, x.undo());
        due(0, x.count(1));
        due(NOT_FOUND, x.inputAt(0, 0));
        due(NOT_POSSIBLE, x.undo());
        x.node(0, 0);
        for (int ticks = 1; ticks <= 6; ticks++) {
            x.tick(ticks);
        }
        due(4, x.count(11));
        type(x, "x;");
        x.edge(0);
        x.take();
        x.done();
        x.mask(0, 1);
        due(4, x.count(11));
        due(3, x.undo());
        due(15, x.count(2));
        due(2, x.undo());
        due(10, x.count(2));
        due(1, x.undo());
        due(0, x.undo());
        due(3, x.count(2));
        due(NOT_POSSIBLE, x.undo());
        due(2, x.count(12));
        due(2, x.count(0));
        x.tick(1);
        due(1, x.count(11));
        due(0, x.undo());
    }

    private static void changesAreKept() {
        LampRanks x = new LampRanks();
        x.node(0, 1);
        x.line(1, 3, 0);
        x.line(1, 3, 0);
        x.line(1, 4, 1);
        x.edge(0);
        x.tick(5);
        x.take();
        due(1, x.inputAt(1, 0));
        due(3, x.undo());
        due(0, x.inputAt(1, 0));
        due(1, x.lineOf(0, 3));
        due(NOT_FOUND, x.lineOf(0, 10));
        due(0, x.lineOf(0, 9));
        due(NOT_FOUND, x.serviceAt(0));
        x.take();
        x.done();
        x.tick(3);
        due(0, x.lineOf(0, 4));
        due(1, x.count(10));
        x.undo();
        due(0, x.count(10));
        due(3, x.lineOf(0, 11));
        due(0, x.waitingAt(0));
        x.undo();
        due(0, x.serviceAt(0));
        due(NOT_FOUND, x.waitingAt(0));
        settingsAreKept(x);
    }

    private static void settingsAreKept(LampRanks x) {
        x.maskNode(1, 1);
        x.mask(1, 1);
        x.threshold(5);
        x.late(9);
        due(9, x.count(9));
        x.undo();
        due(3, x.count(9));
        x.undo();
        due(0, x.count(8));
        x.undo();
        due(0, x.lines(4));
        x.undo();
        due(0, x.lines(5));
        x.level(2, 1);
        x.edge(0);
        x.edge(0);
        x.node(1, 0);
        x.undo();
        due(2, x.count(0));
        x.undo();
        due(0, x.lineOf(0, 8));
        due(2, x.lineOf(0, 7));
        x.undo();
        due(0, x.lineOf(0, 3));
        due(1, x.lineOf(0, 7));
        x.undo();
        due(0, x.lineOf(2, 3));
        // What was added and taken back comes again as new.
        x.line(0, 7, 1);
        x.level(3, 1);
        x.mask(3, 1);
        x.undo();
        x.undo();
        x.undo();
        due(3, x.line(1, 2, 0));
        due(0, x.lineOf(3, 3));
        due(0, x.lineOf(3, 5));
        due(0, x.lineOf(3, 2));
    }

    /** Each kind of change records what was just before it, whatever was recorded before. */
    private static void eachChangeIsKept() {
        List<ToIntFunction<LampRanks>> changes = List.of(
                x -> x.node(0, 1), x -> x.line(0, 1, 0), x -> x.edge(0), x -> x.level(2, 1),
                x -> x.mask(0, 1), x -> x.maskNode(0, 1), x -> x.threshold(2), x -> x.late(2), LampRanks::take,
                LampRanks::done, x -> x.tick(1), LampRanks::play);
        for (ToIntFunction<LampRanks> change : changes) {
            LampRanks x = ofRanks(1, 4);
            x.line(0, 2, 1);
            x.edge(0);
            x.take();
            x.edge(1);
            for (int k = 0; k < 4; k++) {
                x.tick(1);
            }
            x.undo();
            x.undo();
            x.tick(7);
            due(3, x.count(11));
            due(1, change.applyAsInt(x) >= 0 ? 1 : 0);
            due(4, x.count(11));
            due(3, x.undo());
            due(9, x.count(2));
            due(0, x.serviceAt(0));
            due(2, x.lines(0));
            due(2, x.undo());
            due(2, x.count(2));
        }
    }

    private static void waitsAreKept() {
        promise(22);
        LampRanks x = ofRanks(3, 1);
        x.late(0);
        x.edge(0);
        x.tick(2);
        x.take();
        x.done();
        x.edge(0);
        x.tick(9);
        x.take();
        due(9, x.lineOf(0, 10));
        x.undo();
        due(2, x.lineOf(0, 10));
        x.undo();
        x.tick(3);
        x.undo();
        x.tick(4);
        due(2, withText(x, "x;t5;").play());
        due(4, x.lineOf(0, 10));
        x.late(20);
        x.done();
        x.tick(6);
        due(0, withText(x, "").play());
        due(14, x.lineOf(0, 11));
        x.undo();
        due(14, x.lineOf(0, 11));
        x.undo();
        due(20, x.lineOf(0, 11));
    }

    private static void typing() {
        promise(23);
        LampRanks x = new LampRanks();
        due(INVALID, x.type(31));
        due(INVALID, x.type(127));
        due(INVALID, x.type(-1));
        due(INVALID, x.type(65536 + 101));
        due(0, x.count(12));
        due(1, x.type(32));
        due(2, x.type(126));
        for (int length = 3; length <= 60; length++) {
            due(length, x.type('e'));
        }
        due(LIMIT, x.type('e'));
        due(INVALID, x.type(31));
        due(60, x.count(12));
        due(0, x.count(11));
    }

    private static void emptying() {
        promise(24);
        LampRanks x = ofRanks(1);
        due(0, x.clearText());
        type(x, "e0;");
        due(3, x.clearText());
        due(0, x.clearText());
        due(0, x.count(12));
        due(1, x.count(11));
        due(0, x.play());
        due(0, x.count(3));
        type(x, "m");
        due(0, x.fault(0));
        // What was typed before the text was emptied isn't read any more.
        withText(x, "e0;");
        withText(x, "e0");
        due(0, x.fault(0));
        due(1, x.fault(1));
    }

    private static void faults() {
        promise(25);
        LampRanks x = forFaults("e0;e1;x;e2;");
        due(INVALID, x.fault(2));
        due(INVALID, x.fault(-1));
        due(8, x.fault(0));
        due(3, x.fault(1));
        due(0, x.count(2));
        due(0, x.count(3));
        due(3, x.count(11));
        due(11, x.clearText());
        due(NOT_FOUND, x.fault(0));
        due(NOT_FOUND, x.fault(1));
        due(INVALID, x.fault(2));
        for (String text : new String[] {
            "", "e0;", "e00;", "t1;t01;t99;", "l2,1;", "l02,01;l2,00;", "m1,1;m01,00;", "e1;x;d;t3;"
        }) {
            fault(text, NOT_FOUND, NOT_FOUND);
        }
        wrongForms();
        for (String text : new String[] {
            "e3;", "e99;", "t0;", "t00;", "l3,1;", "l2,2;", "l0,2;", "l2,99;", "m3,0;", "m0,2;", "m0,10;"
        }) {
            fault(text, 0, 2);
        }
        for (String text : new String[] {"e2;", "l0,1;", "l0,0;", "l2,0;", "m0,0;", "x;", "d;"}) {
            fault(text, 0, 3);
        }
        fault("e0;e0;x;x;", 8, 3);
        fault("e0;x;d;d;", 7, 3);
        fault("e9;;", 0, 2);
        fault("x;e9;", 0, 3);
        fault("l02,1;l2,1;", 6, 3);
        fault("e0;e1;x;e0;m1,1;t5;e12;", 19, 2);
    }

    private static void wrongForms() {
        for (String text : new String[] {
            ";", " ", " e0;", "e", "e;", "e0", "e000;", "e0,", "e-1;", "e 0;", "e0 ;", "E0;", "x", "x0;", "d,",
            "D;", "t", "t;", "t1", "t100;", "t1,1;", "l", "l2", "l2;", "l2,", "l2,1", "l2,;", "l,1;", "l2,001;",
            "l2,1,", "l002,1;", "l2 1;", "m", "m0", "m0,", "m0,1", "m0,1:", "m0;", "e0:", "e/;", "e:;", "a;",
            "x ;", "m0,1,;", "e9", "x:"
        }) {
            fault(text, 0, 1);
        }
        fault("e0;;", 3, 1);
        fault("e0; x;", 3, 1);
        fault("e0;e", 3, 1);
    }

    private static LampRanks forFaults(String text) {
        LampRanks x = ofRanks(1, 5);
        x.line(0, 2, 1);
        type(x, text);
        return x;
    }

    private static void fault(String text, int position, int reason) {
        LampRanks x = forFaults(text);
        if (x.fault(0) != position || x.fault(1) != reason) {
            wrong++;
            System.out.println("promise 25, text " + text + ": " + x.fault(0) + " and " + x.fault(1));
        }
    }

    private static void plays() {
        promise(26);
        LampRanks x = ofRanks(1, 5);
        x.line(0, 2, 1);
        due(0, x.play());
        due(4, x.count(11));
        due(3, x.undo());
        due(9, withText(x, "e00;e0;e1;x;m00,1;l2,1;t4;d;t3;").play());
        due(31, x.count(12));
        due(4, x.count(11));
        due(7, x.count(2));
        due(1, x.count(4));
        due(1, x.lines(4));
        due(1 + 4, x.lines(0));
        due(1, x.count(10));
        due(NOT_POSSIBLE, x.play());
        due(12, x.fault(0));
        due(3, x.fault(1));
        due(4, x.count(11));
        due(3, x.undo());
        due(0, x.count(2));
        due(0, x.lines(0));
        due(31, x.count(12));
        due(NOT_POSSIBLE, withText(x, "e0;e1;e").play());
        due(0, x.count(3));
        due(3, x.count(11));
        due(20, withText(x, "e0;e0;e0;e0;e0;e0;e0;e0;e0;e0;e0;e0;e0;e0;e0;e0;e0;e0;e0;e0;").play());
        due(19, x.count(4));
        due(1, withText(x, "x;").play());
        due(0, x.serviceAt(0));
        x.late(20);
        due(1, withText(x, "d;").play());
        due(20, x.lineOf(0, 11));
    }
}
