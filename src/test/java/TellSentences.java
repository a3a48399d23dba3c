/** Boundaries in the sentences of promises 8 to 10: what is told of lines and nodes. */
final class TellSentences extends Sentences {
    static void all() {
        test("Promise 8", "line: number of the line", TellSentences::lineToTell);
        test("Promise 8", "INVALID_ARGUMENT if an argument is out of range", TellSentences::lineOfOutOfRange);
        test("Promise 8", "0: its node; 1: its rank; 2: 0 if it is one of edges, 1 of a level; 3: 1 if it is lit,"
                + " otherwise 0", TellSentences::whatALineIs);
        test("Promise 8", "5: 1 if it is masked, otherwise 0; 6: 1 if it is ready, otherwise 0",
                TellSentences::maskedOrReady);
        test("Promise 8", "4: 0 if it is open, 1 if it is in service, 2 if it waits for its acknowledge",
                TellSentences::stages);
        test("Promise 8", "7: its edges so far; 8: of these, how many were lost; 9: how often it was taken",
                TellSentences::accounts);
        test("Promise 8", "10: the longest wait so far", TellSentences::longestWait);
        test("Promise 8", "11: in how many ticks its acknowledge comes", TellSentences::ticksLeft);
        test("Promise 8", "NOT_FOUND for 10 if it is one of a level or was never taken",
                TellSentences::noLongestWait);
        test("Promise 8", "for 11 if it waits for none.", TellSentences::noTicksLeft);
        test("Promise 9", "node: number of the node", TellSentences::nodeToTell);
        test("Promise 9", "0: the node on which it hangs", TellSentences::nodeAbove);
        test("Promise 9", "INVALID_ARGUMENT if an argument is out of range", TellSentences::nodeOfOutOfRange);
        test("Promise 9", "NOT_FOUND for 0 of node 0.", TellSentences::noNodeAbove);
        test("Promise 9", "1: 1 if it is turning, otherwise 0", TellSentences::turningNodes);
        test("Promise 9", "2: its inputs", TellSentences::numberOfInputs);
        test("Promise 9", "3: 1 if it is masked, otherwise 0", TellSentences::maskedNodes);
        test("Promise 9", "4: how many lines have it on their way; 5: the set of these that are lit",
                TellSentences::litBelow);
        test("Promise 10", "node: number of the node", TellSentences::nodeOfInputs);
        test("Promise 10", "index: 0 for the first one in its order, and so on", TellSentences::firstInput);
        test("Promise 10", "Returns the number of the line, or 100 plus the number of the node",
                TellSentences::numbersOfInputs);
        test("Promise 10", "INVALID_ARGUMENT if there is no such node or index is negative",
                TellSentences::noSuchInputs);
        test("Promise 10", "NOT_FOUND if there are not so many.", TellSentences::notSoManyInputs);
    }

    private static void lineToTell() {
        due(INVALID, new LampRanks().lineOf(0, 0));
        LampRanks x = sixteenLines(7);
        each(INVALID, outside(0, 15), line -> x.lineOf(line, 1));
        for (int line = 0; line <= 15; line++) {
            due(7, x.lineOf(line, 1));
        }
    }

    private static void lineOfOutOfRange() {
        LampRanks x = ofRanks(1, 2);
        each(INVALID, outside(0, 11), what -> x.lineOf(0, what));
        for (int what = 0; what <= 11; what++) {
            int it = what;
            each(INVALID, outside(0, 1), line -> x.lineOf(line, it));
            due(0, x.lineOf(1, what) == INVALID ? 1 : 0);
        }
        due(INVALID, x.lineOf(2, 12));
    }

    private static void whatALineIs() {
        LampRanks x = chain(0);
        x.line(5, 0, 1);
        x.line(0, 7, 0);
        whatIs(x, 0, 5, 0, 1, 0);
        whatIs(x, 1, 0, 7, 0, 0);
        x.level(0, 1);
        whatIs(x, 0, 5, 0, 1, 1);
        whatIs(x, 1, 0, 7, 0, 0);
        x.edge(1);
        x.level(0, 0);
        whatIs(x, 0, 5, 0, 1, 0);
        whatIs(x, 1, 0, 7, 0, 1);
        for (int line = 2; line <= 15; line++) {
            x.line(line % 6, line % 8, line % 2);
        }
        whatIs(x, 15, 3, 7, 1, 0);
        whatIs(x, 14, 2, 6, 0, 0);
    }

    private static void whatIs(LampRanks x, int line, int... due) {
        for (int what = 0; what < due.length; what++) {
            due(due[what], x.lineOf(line, what));
        }
    }

    private static void maskedOrReady() {
        LampRanks x = ofRanks(3, 3);
        masks(x, 0, 0, 0);
        x.edge(0);
        masks(x, 0, 0, 1);
        x.mask(0, 1);
        masks(x, 0, 1, 0);
        masks(x, 1, 0, 0);
        x.mask(0, 0);
        x.maskNode(0, 1);
        masks(x, 0, 0, 0);
        x.maskNode(0, 0);
        x.threshold(4);
        masks(x, 0, 0, 0);
        x.threshold(3);
        masks(x, 0, 0, 1);
        x.edge(1);
        x.take();
        masks(x, 0, 0, 0);
        masks(x, 1, 0, 0);
        x.done();
        masks(x, 1, 0, 1);
    }

    private static void masks(LampRanks x, int line, int masked, int ready) {
        due(masked, x.lineOf(line, 5));
        due(ready, x.lineOf(line, 6));
    }

    private static void stages() {
        LampRanks x = litOfRanks(1, 1);
        due(0, x.lineOf(0, 4));
        x.take();
        due(1, x.lineOf(0, 4));
        due(0, x.lineOf(1, 4));
        x.late(1);
        x.done();
        due(2, x.lineOf(0, 4));
        x.take();
        due(1, x.lineOf(1, 4));
        x.tick(1);
        due(0, x.lineOf(0, 4));
        x.late(0);
        x.done();
        due(0, x.lineOf(1, 4));
    }

    private static void accounts() {
        LampRanks x = ofRanks(1);
        x.late(0);
        accountsOf(x, 0, 0, 0);
        x.edge(0);
        accountsOf(x, 1, 0, 0);
        x.edge(0);
        accountsOf(x, 2, 1, 0);
        x.take();
        accountsOf(x, 2, 1, 1);
        x.take();
        accountsOf(x, 2, 1, 1);
        x.done();
        x.edge(0);
        x.take();
        accountsOf(x, 3, 1, 2);
        // A line of a level has takings only.
        LampRanks y = new LampRanks();
        y.line(0, 1, 1);
        y.late(0);
        y.level(0, 1);
        y.edge(0);
        accountsOf(y, 0, 0, 0);
        y.take();
        y.done();
        y.take();
        accountsOf(y, 0, 0, 2);
    }

    private static void accountsOf(LampRanks x, int edges, int lost, int taken) {
        due(edges, x.lineOf(0, 7));
        due(lost, x.lineOf(0, 8));
        due(taken, x.lineOf(0, 9));
    }

    private static void longestWait() {
        LampRanks x = ofRanks(1);
        x.late(0);
        int[] waits = {0, 4, 3, 4, 5, 0};
        int[] longest = {0, 4, 4, 4, 5, 5};
        for (int round = 0; round < waits.length; round++) {
            x.edge(0);
            if (waits[round] > 0) {
                x.tick(waits[round]);
            }
            x.take();
            due(longest[round], x.lineOf(0, 10));
            x.tick(9);
            x.done();
            due(longest[round], x.lineOf(0, 10));
        }
        // A wait that isn't over doesn't count yet.
        x.edge(0);
        x.tick(30);
        due(5, x.lineOf(0, 10));
    }

    private static void ticksLeft() {
        LampRanks x = litOfRanks(1);
        x.late(50);
        x.tick(7);
        x.take();
        x.done();
        for (int left = 50; left >= 1; left--) {
            due(left, x.lineOf(0, 11));
            x.tick(1);
        }
        due(NOT_FOUND, x.lineOf(0, 11));
    }

    private static void noLongestWait() {
        LampRanks x = ofRanks(1);
        x.line(0, 1, 1);
        due(NOT_FOUND, x.lineOf(0, 10));
        due(NOT_FOUND, x.lineOf(1, 10));
        x.level(1, 1);
        x.edge(0);
        x.tick(5);
        due(NOT_FOUND, x.lineOf(0, 10));
        due(NOT_FOUND, x.lineOf(1, 10));
        due(0, x.take());
        due(5, x.lineOf(0, 10));
        x.undo();
        due(NOT_FOUND, x.lineOf(0, 10));
        x.take();
        x.done();
        due(1, x.take());
        due(NOT_FOUND, x.lineOf(1, 10));
        x.done();
        due(NOT_FOUND, x.lineOf(1, 10));
        // Taken in the first tick's time: 0 is a wait, too.
        LampRanks y = litOfRanks(1);
        y.take();
        due(0, y.lineOf(0, 10));
    }

    private static void noTicksLeft() {
        LampRanks x = ofRanks(1);
        due(NOT_FOUND, x.lineOf(0, 11));
        x.edge(0);
        due(NOT_FOUND, x.lineOf(0, 11));
        x.take();
        due(NOT_FOUND, x.lineOf(0, 11));
        x.done();
        due(3, x.lineOf(0, 11));
        x.tick(3);
        due(NOT_FOUND, x.lineOf(0, 11));
        x.late(0);
        x.edge(0);
        x.take();
        x.done();
        due(NOT_FOUND, x.lineOf(0, 11));
    }

    private static void nodeToTell() {
        LampRanks x = chain(1);
        x.line(5, 1, 0);
        each(INVALID, outside(0, 5), node -> x.nodeOf(node, 2));
        for (int node = 0; node <= 5; node++) {
            due(1, x.nodeOf(node, 2));
        }
        due(INVALID, new LampRanks().nodeOf(1, 2));
    }

    private static void nodeAbove() {
        LampRanks x = new LampRanks();
        int[] on = {0, 0, 2, 1, 4};
        for (int node = 1; node <= 5; node++) {
            x.node(on[node - 1], 1);
            due(on[node - 1], x.nodeOf(node, 0));
        }
        x.undo();
        x.node(0, 0);
        due(0, x.nodeOf(5, 0));
        due(1, x.nodeOf(4, 0));
    }

    private static void nodeOfOutOfRange() {
        LampRanks x = new LampRanks();
        x.node(0, 1);
        each(INVALID, outside(0, 5), what -> x.nodeOf(1, what));
        each(INVALID, outside(0, 5), what -> x.nodeOf(0, what));
        for (int what = 0; what <= 5; what++) {
            int it = what;
            each(INVALID, outside(0, 1), node -> x.nodeOf(node, it));
            due(what == 1 ? 1 : 0, x.nodeOf(1, what));
        }
    }

    private static void noNodeAbove() {
        LampRanks x = chain(1);
        due(NOT_FOUND, x.nodeOf(0, 0));
        for (int node = 1; node <= 5; node++) {
            due(node - 1, x.nodeOf(node, 0));
        }
        for (int what = 1; what <= 5; what++) {
            due(what == 2 ? 1 : 0, x.nodeOf(0, what));
        }
    }

    private static void turningNodes() {
        LampRanks x = new LampRanks();
        for (int node = 1; node <= 5; node++) {
            x.node(node - 1, node % 2);
        }
        for (int node = 0; node <= 5; node++) {
            due(node % 2, x.nodeOf(node, 1));
        }
        // Added, undone, and added as the other kind.
        x.undo();
        x.node(0, 0);
        due(0, x.nodeOf(5, 1));
    }

    private static void maskedNodes() {
        LampRanks x = chain(0);
        for (int node = 0; node <= 5; node++) {
            x.maskNode(node, 1);
            for (int other = 0; other <= 5; other++) {
                due(other == node ? 1 : 0, x.nodeOf(other, 3));
            }
            x.maskNode(node, 0);
        }
        x.maskNode(0, 1);
        x.maskNode(5, 1);
        due(1, x.nodeOf(0, 3));
        due(0, x.nodeOf(4, 3));
        due(1, x.nodeOf(5, 3));
        x.maskNode(0, 0);
        due(0, x.nodeOf(0, 3));
        due(1, x.nodeOf(5, 3));
    }

    /** 16 lines and 5 nodes can hang on one. */
    private static void numberOfInputs() {
        LampRanks x = new LampRanks();
        due(0, x.nodeOf(0, 2));
        for (int node = 1; node <= 5; node++) {
            x.node(0, 1);
            due(node, x.nodeOf(0, 2));
        }
        for (int line = 0; line <= 15; line++) {
            x.line(0, 1, 0);
            due(line + 6, x.nodeOf(0, 2));
        }
        due(0, x.nodeOf(5, 2));
        // Inputs of inputs aren't its own.
        LampRanks y = chain(0);
        y.line(5, 1, 0);
        due(1, y.nodeOf(0, 2));
        due(1, y.nodeOf(5, 2));
    }

    private static void litBelow() {
        LampRanks x = chain(0);
        for (int line = 0; line <= 15; line++) {
            x.line(line == 0 ? 0 : 5, 1, line % 2);
        }
        due(16, x.nodeOf(0, 4));
        due(15, x.nodeOf(1, 4));
        due(15, x.nodeOf(5, 4));
        due(0, x.nodeOf(0, 5));
        x.edge(0);
        x.level(15, 1);
        due(32769, x.nodeOf(0, 5));
        due(32768, x.nodeOf(4, 5));
        for (int line = 1; line <= 14; line++) {
            due(1, line % 2 == 0 ? x.edge(line) : Math.min(1, x.level(line, 1)));
        }
        due(65535, x.nodeOf(0, 5));
        due(65534, x.nodeOf(5, 5));
        // Masked or not, they are lit.
        x.maskNode(5, 1);
        x.mask(1, 1);
        due(65534, x.nodeOf(5, 5));
        due(15, x.nodeOf(5, 4));
    }

    private static void nodeOfInputs() {
        LampRanks x = chain(0);
        x.line(5, 1, 0);
        each(INVALID, outside(0, 5), node -> x.inputAt(node, 0));
        due(INVALID, x.inputAt(105, 0));
        due(101, x.inputAt(0, 0));
        due(105, x.inputAt(4, 0));
        due(0, x.inputAt(5, 0));
    }

    private static void firstInput() {
        LampRanks x = new LampRanks();
        x.node(0, 1);
        x.line(1, 1, 0);
        x.line(1, 1, 0);
        x.line(1, 1, 0);
        inputs(x, 1, 0, 1, 2);
        x.edge(0);
        x.take();
        inputs(x, 1, 1, 2, 0);
        inputs(x, 0, 101);
    }

    private static void numbersOfInputs() {
        LampRanks x = new LampRanks();
        for (int node = 1; node <= 5; node++) {
            x.node(0, 0);
        }
        for (int line = 0; line <= 15; line++) {
            x.line(0, 1, 0);
        }
        inputs(x, 0, 101, 102, 103, 104, 105, 0, 1, 2, 3, 4, 5, 6, 7, 8, 9, 10, 11, 12, 13, 14, 15);
        // As many as there can be on a node that turns: 16 lines and 4 nodes.
        LampRanks y = new LampRanks();
        y.node(0, 1);
        for (int line = 0; line <= 15; line++) {
            y.line(1, 1, 0);
        }
        for (int node = 2; node <= 5; node++) {
            y.node(1, 0);
        }
        y.edge(0);
        y.take();
        inputs(y, 1, 1, 2, 3, 4, 5, 6, 7, 8, 9, 10, 11, 12, 13, 14, 15, 102, 103, 104, 105, 0);
    }

    private static void noSuchInputs() {
        LampRanks x = ofRanks(1);
        each(INVALID, outside(0, 0), node -> x.inputAt(node, 0));
        each(INVALID, outside(0, 0), node -> x.inputAt(node, MOST));
        due(INVALID, x.inputAt(0, -1));
        due(INVALID, x.inputAt(0, LEAST));
        due(INVALID, x.inputAt(1, -1));
        due(0, x.inputAt(0, 0));
        LampRanks y = new LampRanks();
        due(INVALID, y.inputAt(0, -1));
        due(INVALID, y.inputAt(100, 0));
    }

    private static void notSoManyInputs() {
        LampRanks x = new LampRanks();
        due(NOT_FOUND, x.inputAt(0, 0));
        due(NOT_FOUND, x.inputAt(0, MOST));
        x.node(0, 1);
        x.line(1, 1, 0);
        each(NOT_FOUND, new int[] {1, 2, 21, 22, 32, 256, 65536, MOST}, index -> x.inputAt(0, index));
        each(NOT_FOUND, new int[] {1, 2, 21, 22, 32, 256, 65536, MOST}, index -> x.inputAt(1, index));
        due(0, x.inputAt(1, 0));
        // An input that was undone isn't there any more.
        x.line(1, 1, 0);
        x.undo();
        due(NOT_FOUND, x.inputAt(1, 1));
        LampRanks most = sixteenLines(1);
        due(15, most.inputAt(0, 15));
        due(NOT_FOUND, most.inputAt(0, 16));
    }
}
