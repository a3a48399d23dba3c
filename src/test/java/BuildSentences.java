/** Boundaries in the sentences of promises 1 to 7: a new object, nodes, lines, masks, the threshold and how late acknowledges come. */
final class BuildSentences extends Sentences {
    static void all() {
        nodesAndLines();
        settings();
    }

    private static void nodesAndLines() {
        test("Promise 1", "Creates a board with node 0 alone, without lines, at the time 0.",
                BuildSentences::aNewBoard);
        test("Promise 2", "on: number of the node on which it hangs", BuildSentences::onWhichItHangs);
        test("Promise 2", "turning: 1 if it is turning, 0 if it is fixed", BuildSentences::turningOrFixed);
        test("Promise 2", "Returns its number", BuildSentences::numbersOfNodes);
        test("Promise 2", "INVALID_ARGUMENT if an argument is out of range; LIMIT_REACHED if there are 6.",
                BuildSentences::sixNodes);
        test("Promise 3", "on: number of the node", BuildSentences::nodeOfALine);
        test("Promise 3", "rank: 0 to 7", BuildSentences::rankOfALine);
        test("Promise 3", "level: 0 for edges, 1 for a level", BuildSentences::kindOfALine);
        test("Promise 3", "Returns its number", BuildSentences::numbersOfLines);
        test("Promise 3", "INVALID_ARGUMENT if an argument is out of range; LIMIT_REACHED if there are 16.",
                BuildSentences::sixteen);
    }

    private static void settings() {
        test("Promise 4", "line: number of the line", BuildSentences::lineToMask);
        test("Promise 4", "is: 1 or 0", BuildSentences::maskIs);
        test("Promise 4", "INVALID_ARGUMENT if an argument is out of range", BuildSentences::maskOutOfRange);
        test("Promise 4", "Returns how many lines are masked then", BuildSentences::howManyMasked);
        test("Promise 4", "NOT_POSSIBLE if it is so already.", BuildSentences::maskedAlready);
        test("Promise 5", "node: number of the node", BuildSentences::nodeToMask);
        test("Promise 5", "is: 1 or 0", BuildSentences::nodeMaskIs);
        test("Promise 5", "INVALID_ARGUMENT if an argument is out of range", BuildSentences::maskNodeOutOfRange);
        test("Promise 5", "Returns how many lines have this node on their way", BuildSentences::howManyBelow);
        test("Promise 5", "NOT_POSSIBLE if it is so already.", BuildSentences::nodeMaskedAlready);
        test("Promise 6", "rank: 0 to 8", BuildSentences::thresholdRange);
        test("Promise 6", "Returns what it was; INVALID_ARGUMENT if rank is out of range.",
                BuildSentences::thresholdBefore);
        test("Promise 7", "those that are on their way stay as they are.", BuildSentences::onTheirWay);
        test("Promise 7", "ticks: 0 to 50", BuildSentences::lateRange);
        test("Promise 7", "Returns what it was; INVALID_ARGUMENT if ticks is out of range.",
                BuildSentences::lateBefore);
    }

    private static void aNewBoard() {
        LampRanks x = new LampRanks();
        int[] due = {1, 0, 0, 0, 0, 0, 0, 0, 0, 3, 0, 0, 0};
        for (int what = 0; what < due.length; what++) {
            due(due[what], x.count(what));
        }
        for (int what = 0; what <= 5; what++) {
            due(0, x.lines(what));
            due(what == 0 ? NOT_FOUND : 0, x.nodeOf(0, what));
        }
        order(x);
        inputs(x, 0);
        due(NOT_FOUND, x.next());
        due(NOT_FOUND, x.serviceAt(0));
        due(NOT_FOUND, x.waitingAt(0));
        due(NOT_FOUND, x.fault(0));
        due(NOT_FOUND, x.take());
        due(NOT_POSSIBLE, x.done());
        due(NOT_POSSIBLE, x.undo());
        // One board knows nothing of another one.
        LampRanks other = litOfRanks(1, 2);
        other.node(0, 1);
        other.tick(1);
        withText(other, "x;");
        due(0, x.count(1));
        due(1, new LampRanks().count(0));
        due(0, new LampRanks().count(12));
    }

    private static void onWhichItHangs() {
        LampRanks x = new LampRanks();
        each(INVALID, outside(0, 0), on -> x.node(on, 0));
        due(1, x.node(0, 0));
        each(INVALID, outside(0, 1), on -> x.node(on, 1));
        due(2, x.node(1, 0));
        due(3, x.node(0, 0));
        due(1, x.nodeOf(2, 0));
        due(0, x.nodeOf(3, 0));
        inputs(x, 0, 101, 103);
        inputs(x, 1, 102);
    }

    private static void turningOrFixed() {
        LampRanks x = new LampRanks();
        each(INVALID, outside(0, 1), turning -> x.node(0, turning));
        due(1, x.count(0));
        due(1, x.node(0, 1));
        due(2, x.node(0, 0));
        due(1, x.nodeOf(1, 1));
        due(0, x.nodeOf(2, 1));
    }

    private static void numbersOfNodes() {
        LampRanks x = new LampRanks();
        due(1, x.node(0, 0));
        x.line(1, 1, 0);
        due(2, x.node(1, 1));
        x.undo();
        // The number of one that was undone is used again.
        due(2, x.node(0, 0));
        due(INVALID, x.node(3, 0));
        for (int number = 3; number <= 5; number++) {
            due(number, x.node(0, 0));
        }
        due(6, x.count(0));
    }

    private static void numbersOfLines() {
        LampRanks x = new LampRanks();
        due(0, x.line(0, 7, 0));
        x.node(0, 0);
        due(1, x.line(1, 0, 1));
        x.undo();
        due(1, x.line(0, 3, 0));
        due(3, x.lineOf(1, 1));
        due(INVALID, x.line(0, 8, 0));
        for (int number = 2; number <= 15; number++) {
            due(number, x.line(number % 2, number % 8, number % 2));
        }
        due(16, x.count(1));
    }

    private static void sixNodes() {
        LampRanks x = new LampRanks();
        for (int node = 1; node <= 5; node++) {
            due(node, x.node(node / 2, node % 2));
        }
        due(LIMIT, x.node(0, 0));
        due(LIMIT, x.node(5, 1));
        due(INVALID, x.node(6, 0));
        due(INVALID, x.node(0, 2));
        x.undo();
        due(5, x.count(0));
        due(5, x.node(4, 0));
        due(4, x.nodeOf(5, 0));
        due(LIMIT, x.node(0, 0));
    }

    private static void nodeOfALine() {
        LampRanks x = new LampRanks();
        each(INVALID, outside(0, 0), on -> x.line(on, 1, 0));
        LampRanks most = chain(0);
        each(INVALID, outside(0, 5), on -> most.line(on, 1, 0));
        for (int node = 0; node <= 5; node++) {
            due(node, most.line(node, 1, 0));
            due(node, most.lineOf(node, 0));
        }
    }

    private static void rankOfALine() {
        LampRanks x = new LampRanks();
        each(INVALID, outside(0, 7), rank -> x.line(0, rank, 0));
        each(INVALID, outside(0, 7), rank -> x.line(0, rank, 1));
        due(0, x.count(1));
        due(0, x.line(0, 0, 0));
        due(1, x.line(0, 7, 0));
        due(0, x.lineOf(0, 1));
        due(7, x.lineOf(1, 1));
    }

    private static void kindOfALine() {
        LampRanks x = new LampRanks();
        each(INVALID, outside(0, 1), level -> x.line(0, 1, level));
        due(0, x.count(1));
        due(0, x.line(0, 1, 1));
        due(1, x.line(0, 1, 0));
        due(1, x.lineOf(0, 2));
        due(0, x.lineOf(1, 2));
    }

    private static void sixteen() {
        LampRanks x = sixteenLines(1);
        due(LIMIT, x.line(0, 0, 0));
        due(LIMIT, x.line(0, 7, 1));
        due(INVALID, x.line(0, -1, 0));
        due(INVALID, x.line(0, 8, 0));
        due(INVALID, x.line(0, 0, -1));
        due(INVALID, x.line(1, 0, 0));
        due(16, x.count(1));
        x.undo();
        due(15, x.count(1));
        due(15, x.line(0, 7, 1));
        due(7, x.lineOf(15, 1));
        due(LIMIT, x.line(0, 0, 0));
    }

    private static void lineToMask() {
        due(INVALID, new LampRanks().mask(0, 1));
        LampRanks x = sixteenLines(1);
        each(INVALID, outside(0, 15), line -> x.mask(line, 1));
        due(0, x.lines(4));
        due(1, x.mask(15, 1));
        due(2, x.mask(0, 1));
        due(32769, x.lines(4));
    }

    private static void maskIs() {
        LampRanks x = ofRanks(1);
        each(INVALID, outside(0, 1), is -> x.mask(0, is));
        due(0, x.lines(4));
        due(1, x.mask(0, 1));
        each(INVALID, outside(0, 1), is -> x.mask(0, is));
        due(1, x.lines(4));
        due(0, x.mask(0, 0));
    }

    private static void maskOutOfRange() {
        LampRanks x = ofRanks(1, 2);
        each(INVALID, outside(0, 1), line -> x.mask(line, 0));
        each(INVALID, outside(0, 1), line -> x.mask(line, 2));
        each(INVALID, outside(0, 1), is -> x.mask(2, is));
        due(0, x.lines(4));
        due(2, x.count(11));
    }

    private static void howManyMasked() {
        LampRanks x = sixteenLines(1);
        x.maskNode(0, 1);
        for (int line = 0; line <= 15; line++) {
            due(line + 1, x.mask(line, 1));
        }
        due(15, x.mask(7, 0));
        x.maskNode(0, 0);
        for (int line = 0; line <= 6; line++) {
            due(14 - line, x.mask(line, 0));
        }
        for (int line = 8; line <= 15; line++) {
            due(15 - line, x.mask(line, 0));
        }
        due(0, x.lines(4));
    }

    private static void maskedAlready() {
        LampRanks x = ofRanks(1, 2);
        due(NOT_POSSIBLE, x.mask(0, 0));
        x.mask(0, 1);
        due(NOT_POSSIBLE, x.mask(0, 1));
        due(NOT_POSSIBLE, x.mask(1, 0));
        due(0, x.mask(0, 0));
        due(NOT_POSSIBLE, x.mask(0, 0));
        // A node on its way doesn't mask the line itself.
        x.maskNode(0, 1);
        due(NOT_POSSIBLE, x.mask(0, 0));
        due(1, x.mask(0, 1));
        due(NOT_POSSIBLE, x.mask(0, 1));
    }

    private static void nodeToMask() {
        LampRanks x = chain(0);
        x.line(5, 1, 0);
        each(INVALID, outside(0, 5), node -> x.maskNode(node, 1));
        due(0, x.lines(5));
        due(1, x.maskNode(5, 1));
        due(1, x.maskNode(0, 1));
        due(1, x.nodeOf(5, 3) & x.nodeOf(0, 3));
    }

    private static void nodeMaskIs() {
        LampRanks x = new LampRanks();
        each(INVALID, outside(0, 1), is -> x.maskNode(0, is));
        due(0, x.nodeOf(0, 3));
        due(0, x.maskNode(0, 1));
        each(INVALID, outside(0, 1), is -> x.maskNode(0, is));
        due(1, x.nodeOf(0, 3));
        due(0, x.maskNode(0, 0));
        due(0, x.nodeOf(0, 3));
    }

    private static void maskNodeOutOfRange() {
        LampRanks x = new LampRanks();
        x.node(0, 0);
        each(INVALID, outside(0, 1), node -> x.maskNode(node, 0));
        each(INVALID, outside(0, 1), node -> x.maskNode(node, 2));
        each(INVALID, outside(0, 1), is -> x.maskNode(2, is));
        due(0, x.nodeOf(0, 3) + x.nodeOf(1, 3));
        due(1, x.count(11));
    }

    private static void howManyBelow() {
        LampRanks x = chain(0);
        for (int node = 0; node <= 5; node++) {
            due(0, x.maskNode(node, 1));
        }
        for (int line = 0; line <= 15; line++) {
            x.line(line == 0 ? 0 : 5, 1, line % 2);
        }
        // Masked lines count as well.
        x.mask(15, 1);
        due(16, x.maskNode(0, 0));
        for (int node = 1; node <= 5; node++) {
            due(15, x.maskNode(node, 0));
        }
    }

    private static void nodeMaskedAlready() {
        LampRanks x = chain(1);
        for (int node = 0; node <= 5; node++) {
            due(NOT_POSSIBLE, x.maskNode(node, 0));
            due(0, x.maskNode(node, 1));
            due(NOT_POSSIBLE, x.maskNode(node, 1));
        }
        for (int node = 0; node <= 5; node++) {
            due(0, x.maskNode(node, 0));
            due(NOT_POSSIBLE, x.maskNode(node, 0));
        }
        // The node above is masked: this one isn't for that.
        x.maskNode(0, 1);
        due(NOT_POSSIBLE, x.maskNode(1, 0));
        due(0, x.maskNode(1, 1));
    }

    private static void thresholdRange() {
        LampRanks x = new LampRanks();
        for (int rank = 1; rank <= 8; rank++) {
            due(rank - 1, x.threshold(rank));
            due(rank, x.count(8));
        }
        due(8, x.threshold(0));
        due(0, x.count(8));
    }

    private static void thresholdBefore() {
        LampRanks x = new LampRanks();
        each(INVALID, outside(0, 8), x::threshold);
        due(0, x.threshold(0));
        due(0, x.threshold(5));
        each(INVALID, outside(0, 8), x::threshold);
        due(5, x.threshold(5));
        due(5, x.threshold(8));
        due(8, x.threshold(8));
    }

    private static void onTheirWay() {
        LampRanks x = litOfRanks(1, 2, 3);
        x.late(10);
        x.take();
        x.done();
        x.tick(4);
        x.late(0);
        due(6, x.lineOf(2, 11));
        due(0, x.count(10));
        x.late(50);
        due(6, x.lineOf(2, 11));
        x.take();
        x.done();
        x.late(1);
        due(0, x.tick(5));
        due(1, x.tick(1));
        due(44, x.lineOf(1, 11));
        due(0, x.tick(43));
        due(1, x.tick(1));
    }

    private static void lateRange() {
        LampRanks x = new LampRanks();
        due(3, x.late(0));
        due(0, x.count(9));
        for (int ticks = 1; ticks <= 50; ticks++) {
            due(ticks - 1, x.late(ticks));
        }
        due(50, x.count(9));
    }

    private static void lateBefore() {
        LampRanks x = new LampRanks();
        each(INVALID, outside(0, 50), x::late);
        due(3, x.late(3));
        due(3, x.late(50));
        each(INVALID, outside(0, 50), x::late);
        due(50, x.late(50));
        due(50, x.late(0));
        due(0, x.late(0));
    }
}
