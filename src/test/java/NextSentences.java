/** Boundaries in the sentences of promises 16 to 22: who is next, sets, numbers and the history. */
final class NextSentences extends Sentences {
    static void all() {
        whoIsNext();
        sets();
    }

    private static void whoIsNext() {
        test("Promise 16", "Returns its number", NextSentences::numbersNext);
        test("Promise 16", "(however many are in service).", NextSentences::nextOfFour);
        test("Promise 16", "NOT_FOUND if no line is ready.", NextSentences::noNext);
        test("Promise 17", "(however many are in service)", NextSentences::orderOfFour);
        test("Promise 17", "if the next one was taken, done and acknowledged at once, again and again",
                NextSentences::againAndAgain);
        test("Promise 17", "the levels of lines of a level became 0 when they are taken.",
                NextSentences::levelsBecome0);
        test("Promise 17", "index: 0 for the first one, and so on", NextSentences::allInOrder);
        test("Promise 17", "INVALID_ARGUMENT if index is negative", NextSentences::orderNegative);
        test("Promise 17", "NOT_FOUND if there are not so many.", NextSentences::notSoManyInOrder);
        test("Promise 18", "index: 0 for the one that was taken last, and so on", NextSentences::lastTakenFirst);
        test("Promise 18", "INVALID_ARGUMENT if index is negative", NextSentences::serviceNegative);
        test("Promise 18", "NOT_FOUND if there are not so many.", NextSentences::notSoManyInService);
        test("Promise 19", "index: 0 for the one whose acknowledge comes first, of several the one that was done"
                + " first, and so on", NextSentences::firstAcknowledgeFirst);
        test("Promise 19", "INVALID_ARGUMENT if index is negative", NextSentences::waitingNegative);
        test("Promise 19", "NOT_FOUND if there are not so many.", NextSentences::notSoManyWaiting);
    }

    private static void sets() {
        test("Promise 20", "0: lit; 1: ready; 2: in service; 3: waiting for acknowledges",
                NextSentences::linesByState);
        test("Promise 20", "4: masked themselves; 5: masked, themselves or by a node on their way",
                NextSentences::maskedLines);
        test("Promise 20", "INVALID_ARGUMENT if what is out of range.", NextSentences::linesOutOfRange);
        test("Promise 21", "INVALID_ARGUMENT if what is out of range.", NextSentences::countOutOfRange);
        test("Promise 21", "0: nodes; 1: lines; 2: the time", NextSentences::nodesLinesTime);
        test("Promise 21", "8: the threshold; 9: how late acknowledges come", NextSentences::settingsNow);
        test("Promise 21", "3: edges so far; 4: edges that were lost; 5: edges that are lit now",
                NextSentences::edgeNumbers);
        test("Promise 21", "6: lines of edges that were taken so far, each time counted; 7: lines of levels that"
                + " were taken so far, each time counted", NextSentences::takenNumbers);
        test("Promise 21", "10: acknowledges that came so far", NextSentences::acknowledgesSoFar);
        test("Promise 21", "11: states in the history; 12: the length of the text", NextSentences::lengths);
        test("Promise 22", "Restores the latest state of the history, which is removed from it.",
                NextSentences::latestState);
        test("Promise 22", "Returns the number of states that are left in the history; NOT_POSSIBLE if it is empty.",
                NextSentences::statesLeft);
    }

    private static void numbersNext() {
        LampRanks x = sixteenLines(1);
        for (int line = 15; line >= 0; line--) {
            x.edge(line);
            due(line, x.next());
        }
        for (int line = 0; line <= 14; line++) {
            x.mask(line, 1);
            due(line + 1, x.next());
        }
    }

    private static void nextOfFour() {
        LampRanks x = fourInService();
        due(NOT_FOUND, x.next());
        x.edge(4);
        due(4, x.next());
        due(LIMIT, x.take());
        due(4, x.next());
        x.done();
        due(4, x.next());
        due(4, x.take());
        due(NOT_FOUND, x.next());
    }

    private static void noNext() {
        LampRanks x = new LampRanks();
        due(NOT_FOUND, x.next());
        x.line(0, 0, 0);
        due(NOT_FOUND, x.next());
        x.edge(0);
        due(0, x.next());
        due(0, x.next());
        x.mask(0, 1);
        due(NOT_FOUND, x.next());
        x.mask(0, 0);
        x.threshold(1);
        due(NOT_FOUND, x.next());
        x.threshold(0);
        x.take();
        due(NOT_FOUND, x.next());
    }

    private static void orderOfFour() {
        LampRanks x = ofRanks(1, 2, 3, 4, 5, 6, 6, 4);
        for (int line = 0; line < 4; line++) {
            x.edge(line);
            x.take();
        }
        order(x);
        edges(x, 0, 1, 2, 3, 4, 5, 6, 7);
        // Line 7 isn't above the one that was taken last, and those in service aren't open.
        order(x, 5, 6, 4);
        due(15, x.lines(2));
        due(255, x.lines(0));
        x.done();
        order(x, 5, 6, 4, 7);
    }

    private static void againAndAgain() {
        LampRanks x = new LampRanks();
        x.node(0, 1);
        x.node(1, 1);
        x.line(2, 4, 0);
        x.line(2, 4, 0);
        x.line(1, 4, 0);
        x.line(0, 4, 0);
        x.line(0, 2, 0);
        edges(x, 0, 1, 2, 3, 4);
        // Node 1 has 102, 2: after line 0 its own line 2 is ahead of line 1.
        order(x, 0, 2, 1, 3, 4);
        inputs(x, 1, 102, 2);
        inputs(x, 2, 0, 1);
        due(31, x.lines(0));
        due(0, x.count(6) + x.count(2) + x.count(10));
        due(4, x.count(11));
        // Those taken really come in the same order.
        x.late(0);
        for (int line : new int[] {0, 2, 1, 3, 4}) {
            due(line, x.take());
            x.done();
        }
        // One whose acknowledge is still on its way isn't among them.
        LampRanks y = litOfRanks(3, 5, 1);
        y.take();
        y.done();
        y.edge(1);
        order(y, 0, 2);
        y.tick(3);
        order(y, 1, 0, 2);
        y.threshold(3);
        order(y, 1, 0);
        y.mask(1, 1);
        order(y, 0);
        // Masked nodes keep away the lines below them, at each turn.
        LampRanks z = chain(1);
        for (int node = 0; node <= 5; node++) {
            z.line(node, 4, 0);
            z.edge(node);
        }
        order(z, 5, 1, 2, 3, 4, 0);
        z.maskNode(3, 1);
        order(z, 2, 1, 0);
        z.maskNode(1, 1);
        order(z, 0);
        z.maskNode(0, 1);
        order(z);
    }

    private static void levelsBecome0() {
        LampRanks x = new LampRanks();
        x.line(0, 4, 1);
        x.line(0, 4, 0);
        x.line(0, 7, 1);
        x.level(0, 1);
        order(x, 0);
        x.edge(1);
        x.level(2, 1);
        order(x, 2, 0, 1);
        due(7, x.lines(0));
        due(1, x.lineOf(0, 3));
        order(x, 2, 0, 1);
    }

    private static void allInOrder() {
        LampRanks x = new LampRanks();
        for (int line = 0; line <= 15; line++) {
            x.line(0, line % 8, line / 8);
        }
        for (int line = 0; line <= 7; line++) {
            x.edge(line);
            x.level(line + 8, 1);
        }
        order(x, 7, 15, 6, 14, 5, 13, 4, 12, 3, 11, 2, 10, 1, 9, 0, 8);
        due(7, x.orderAt(0));
        due(x.next(), x.orderAt(0));
    }

    private static void orderNegative() {
        for (LampRanks x : new LampRanks[] {new LampRanks(), litOfRanks(1, 2)}) {
            each(INVALID, new int[] {-1, -2, -16, -32, -256, -65536, LEAST + 1, LEAST}, x::orderAt);
        }
    }

    private static void notSoManyInOrder() {
        LampRanks x = litOfRanks(1, 2);
        each(NOT_FOUND, new int[] {2, 3, 15, 16, 17, 32, 256, 65536, MOST}, x::orderAt);
        due(0, x.orderAt(1));
        due(NOT_FOUND, new LampRanks().orderAt(0));
        due(NOT_FOUND, ofRanks(1).orderAt(0));
        LampRanks most = sixteenLines(1);
        edges(most, 0, 1, 2, 3, 4, 5, 6, 7, 8, 9, 10, 11, 12, 13, 14, 15);
        due(15, most.orderAt(15));
        due(NOT_FOUND, most.orderAt(16));
        due(NOT_FOUND, most.orderAt(MOST));
    }

    private static void lastTakenFirst() {
        LampRanks x = fourInService();
        for (int index = 0; index <= 3; index++) {
            due(3 - index, x.serviceAt(index));
        }
        x.done();
        due(2, x.serviceAt(0));
        due(0, x.serviceAt(2));
        due(NOT_FOUND, x.serviceAt(3));
        // By when they were taken, not by their numbers.
        LampRanks y = ofRanks(6, 2, 4);
        for (int line : new int[] {1, 2, 0}) {
            y.edge(line);
            y.take();
        }
        due(0, y.serviceAt(0));
        due(2, y.serviceAt(1));
        due(1, y.serviceAt(2));
    }

    private static void serviceNegative() {
        for (LampRanks x : new LampRanks[] {new LampRanks(), fourInService()}) {
            each(INVALID, new int[] {-1, -2, -4, -32, -256, -65536, LEAST + 1, LEAST}, x::serviceAt);
        }
    }

    private static void notSoManyInService() {
        int[] most = {4, 5, 15, 16, 21, 32, 256, 65536, MOST - 1, MOST};
        each(NOT_FOUND, most, fourInService()::serviceAt);
        each(NOT_FOUND, most, new LampRanks()::serviceAt);
        LampRanks x = litOfRanks(1);
        due(NOT_FOUND, x.serviceAt(0));
        x.take();
        due(0, x.serviceAt(0));
        due(NOT_FOUND, x.serviceAt(1));
        x.done();
        due(NOT_FOUND, x.serviceAt(0));
    }

    private static void firstAcknowledgeFirst() {
        LampRanks x = fourInService();
        int[] lates = {9, 5, 9, 5};
        for (int late : lates) {
            x.late(late);
            x.done();
        }
        // Lines 3 and 1 are due at 9, lines 2 and 0 at 5.
        waiting(x, 2, 0, 3, 1);
        x.tick(4);
        x.edge(4);
        x.take();
        x.done();
        // Line 4 is due at 9, too, and was done behind lines 3 and 1.
        waiting(x, 2, 0, 3, 1, 4);
        x.tick(1);
        waiting(x, 3, 1, 4);
        // One that overtakes all, and one behind all.
        x.edge(2);
        x.late(1);
        x.take();
        x.done();
        waiting(x, 2, 3, 1, 4);
        x.late(50);
        x.edge(0);
        x.take();
        x.done();
        waiting(x, 2, 3, 1, 4, 0);
        LampRanks y = sixteenLines(1);
        y.late(50);
        for (int line = 15; line >= 0; line--) {
            y.edge(line);
            y.take();
            y.done();
        }
        waiting(y, 15, 14, 13, 12, 11, 10, 9, 8, 7, 6, 5, 4, 3, 2, 1, 0);
    }

    private static void waiting(LampRanks x, int... due) {
        for (int index = 0; index < due.length; index++) {
            due(due[index], x.waitingAt(index));
        }
        due(NOT_FOUND, x.waitingAt(due.length));
    }

    private static void waitingNegative() {
        LampRanks x = litOfRanks(1);
        x.take();
        x.done();
        for (LampRanks it : new LampRanks[] {new LampRanks(), x}) {
            each(INVALID, new int[] {-1, -2, -16, -32, -256, -65536, LEAST + 1, LEAST}, it::waitingAt);
        }
    }

    private static void notSoManyWaiting() {
        int[] most = {1, 2, 15, 16, 20, 21, 32, 256, 65536, MOST};
        LampRanks x = litOfRanks(1);
        due(NOT_FOUND, x.waitingAt(0));
        x.take();
        due(NOT_FOUND, x.waitingAt(0));
        x.done();
        due(0, x.waitingAt(0));
        each(NOT_FOUND, most, x::waitingAt);
        x.tick(3);
        due(NOT_FOUND, x.waitingAt(0));
        x.late(0);
        x.edge(0);
        x.take();
        x.done();
        due(NOT_FOUND, x.waitingAt(0));
    }

    private static void linesByState() {
        LampRanks x = ofRanks(1, 2, 3, 4, 5);
        states(x, 0, 0, 0, 0);
        edges(x, 0, 1, 2, 3, 4);
        states(x, 31, 31, 0, 0);
        x.take();
        states(x, 15, 0, 16, 0);
        x.done();
        states(x, 15, 15, 0, 16);
        x.mask(3, 1);
        x.take();
        states(x, 11, 0, 4, 16);
        x.mask(3, 0);
        states(x, 11, 8, 4, 16);
        x.take();
        states(x, 3, 0, 12, 16);
        x.edge(4);
        x.edge(2);
        states(x, 23, 0, 12, 16);
        x.tick(3);
        states(x, 23, 16, 12, 0);
        x.done();
        x.done();
        states(x, 23, 19, 0, 12);
        x.threshold(2);
        states(x, 23, 18, 0, 12);
    }

    private static void states(LampRanks x, int lit, int ready, int inService, int waiting) {
        due(lit, x.lines(0));
        due(ready, x.lines(1));
        due(inService, x.lines(2));
        due(waiting, x.lines(3));
    }

    private static void maskedLines() {
        LampRanks x = new LampRanks();
        x.node(0, 0);
        x.node(1, 0);
        x.line(0, 1, 0);
        x.line(1, 1, 0);
        x.line(2, 1, 0);
        x.mask(2, 1);
        masked(x, 4, 4);
        x.maskNode(2, 1);
        masked(x, 4, 4);
        x.mask(2, 0);
        masked(x, 0, 4);
        x.maskNode(1, 1);
        masked(x, 0, 6);
        x.maskNode(2, 0);
        masked(x, 0, 6);
        x.mask(0, 1);
        masked(x, 1, 7);
        x.maskNode(0, 1);
        x.mask(0, 0);
        masked(x, 0, 7);
        x.maskNode(1, 0);
        masked(x, 0, 7);
        x.maskNode(0, 0);
        masked(x, 0, 0);
        // A line that is added below a masked node is masked by it.
        x.maskNode(2, 1);
        x.line(2, 1, 0);
        masked(x, 0, 12);
        x.node(2, 0);
        x.line(3, 1, 0);
        masked(x, 0, 28);
    }

    private static void masked(LampRanks x, int themselves, int all) {
        due(themselves, x.lines(4));
        due(all, x.lines(5));
    }

    private static void linesOutOfRange() {
        LampRanks x = litOfRanks(1, 2);
        each(INVALID, outside(0, 5), x::lines);
        for (int what = 0; what <= 5; what++) {
            due(what <= 1 ? 3 : 0, x.lines(what));
        }
    }

    private static void countOutOfRange() {
        LampRanks x = new LampRanks();
        each(INVALID, outside(0, 12), x::count);
        int[] due = {1, 0, 0, 0, 0, 0, 0, 0, 0, 3, 0, 0, 0};
        for (int what = 0; what <= 12; what++) {
            due(due[what], x.count(what));
        }
    }

    private static void nodesLinesTime() {
        LampRanks x = new LampRanks();
        for (int node = 1; node <= 6; node++) {
            due(node, x.count(0));
            x.node(0, 0);
        }
        due(6, x.count(0));
        for (int line = 0; line <= 16; line++) {
            due(Math.min(line, 16), x.count(1));
            x.line(5, 1, line % 2);
        }
        due(16, x.count(1));
        due(0, x.count(2));
        x.tick(99);
        due(99, x.count(2));
        x.undo();
        due(0, x.count(2));
        x.undo();
        due(15, x.count(1));
        due(50000, atTime(50000).count(2));
    }

    private static void settingsNow() {
        LampRanks x = new LampRanks();
        due(0, x.count(8));
        due(3, x.count(9));
        x.threshold(8);
        x.late(50);
        due(8, x.count(8));
        due(50, x.count(9));
        x.late(0);
        x.threshold(9);
        x.late(51);
        due(8, x.count(8));
        due(0, x.count(9));
        x.threshold(0);
        due(0, x.count(8));
        due(0, x.count(9));
        x.undo();
        x.undo();
        due(8, x.count(8));
        due(50, x.count(9));
    }

    private static void edgeNumbers() {
        LampRanks x = sixteenLines(1);
        for (int line = 0; line <= 15; line++) {
            numbers(x, 2 * line, line, line);
            x.edge(line);
            x.edge(line);
        }
        numbers(x, 32, 16, 16);
        x.take();
        numbers(x, 32, 16, 15);
        x.edge(0);
        numbers(x, 33, 16, 16);
        x.edge(0);
        numbers(x, 34, 17, 16);
        // Levels aren't edges.
        LampRanks y = ofRanks(1);
        y.line(0, 2, 1);
        y.level(1, 1);
        numbers(y, 0, 0, 0);
        y.edge(0);
        numbers(y, 1, 0, 1);
        y.take();
        numbers(y, 1, 0, 1);
        LampRanks levels = new LampRanks();
        for (int line = 0; line <= 15; line++) {
            levels.line(0, 1, 1);
            levels.level(line, 1);
        }
        numbers(levels, 0, 0, 0);
    }

    private static void numbers(LampRanks x, int edges, int lost, int lit) {
        due(edges, x.count(3));
        due(lost, x.count(4));
        due(lit, x.count(5));
    }

    private static void takenNumbers() {
        LampRanks x = ofRanks(1);
        x.line(0, 2, 1);
        x.late(0);
        x.level(1, 1);
        for (int times = 1; times <= 3; times++) {
            x.take();
            x.done();
            due(0, x.count(6));
            due(times, x.count(7));
        }
        x.level(1, 0);
        for (int times = 1; times <= 3; times++) {
            due(NOT_FOUND, x.take());
            x.edge(0);
            x.take();
            due(times, x.count(6));
            due(3, x.count(7));
            x.done();
        }
        x.undo();
        x.undo();
        due(2, x.count(6));
    }

    private static void acknowledgesSoFar() {
        LampRanks x = litOfRanks(1, 2, 3);
        x.take();
        due(0, x.count(10));
        x.done();
        due(0, x.count(10));
        x.tick(2);
        due(0, x.count(10));
        x.tick(1);
        due(1, x.count(10));
        x.take();
        x.late(0);
        x.done();
        due(2, x.count(10));
        x.undo();
        due(1, x.count(10));
        x.late(1);
        x.done();
        x.take();
        x.done();
        due(2, x.tick(99));
        due(3, x.count(10));
    }

    private static void lengths() {
        LampRanks x = new LampRanks();
        for (int change = 1; change <= 6; change++) {
            x.tick(1);
            due(Math.min(change, 4), x.count(11));
        }
        due(3, x.undo());
        due(3, x.count(11));
        x.tick(1);
        due(4, x.count(11));
        for (int length = 1; length <= 61; length++) {
            x.type('~');
            due(Math.min(length, 60), x.count(12));
        }
        x.clearText();
        due(0, x.count(12));
    }

    private static void latestState() {
        LampRanks x = ofRanks(1);
        x.edge(0);
        x.tick(1);
        x.take();
        due(NOT_FOUND, x.next());
        x.undo();
        due(0, x.next());
        due(1, x.count(2));
        x.undo();
        due(0, x.count(2));
        // It is removed: a change then records what is there now.
        x.tick(5);
        x.undo();
        due(0, x.count(2));
        due(1, x.lines(0));
        x.undo();
        due(0, x.lines(0));
        x.undo();
        due(0, x.count(1));
        due(NOT_POSSIBLE, x.undo());
        // What was undone can't be undone in its turn.
        LampRanks y = new LampRanks();
        y.tick(1);
        y.undo();
        due(NOT_POSSIBLE, y.undo());
        due(0, y.count(2));
    }

    private static void statesLeft() {
        LampRanks x = new LampRanks();
        due(NOT_POSSIBLE, x.undo());
        x.tick(1);
        due(0, x.undo());
        due(NOT_POSSIBLE, x.undo());
        for (int change = 1; change <= 5; change++) {
            x.tick(1);
        }
        for (int left = 3; left >= 0; left--) {
            due(left, x.undo());
        }
        due(NOT_POSSIBLE, x.undo());
        due(NOT_POSSIBLE, x.undo());
        due(1, x.count(2));
    }
}
