/** The sentences of the promises that name a boundary. */
final class PromiseSentences extends Sentences {
    static void all() {
        nodesAndLines();
        settings();
        whatIsTold();
        events();
        whoIsNext();
        sets();
        texts();
    }

    private static void nodesAndLines() {
        test("Promise 1", "Creates a board with node 0 alone, without lines, at the time 0.",
                PromiseSentences::aNewBoard);
        test("Promise 2", "on: number of the node on which it hangs", PromiseSentences::onWhichItHangs);
        test("Promise 2", "turning: 1 if it is turning, 0 if it is fixed", PromiseSentences::turningOrFixed);
        test("Promise 2", "Returns its number", PromiseSentences::numbersOfNodes);
        test("Promise 2", "INVALID_ARGUMENT if an argument is out of range; LIMIT_REACHED if there are 6.",
                PromiseSentences::sixNodes);
        test("Promise 3", "on: number of the node", PromiseSentences::nodeOfALine);
        test("Promise 3", "rank: 0 to 7", PromiseSentences::rankOfALine);
        test("Promise 3", "level: 0 for edges, 1 for a level", PromiseSentences::kindOfALine);
        test("Promise 3", "Returns its number", PromiseSentences::numbersOfLines);
        test("Promise 3", "INVALID_ARGUMENT if an argument is out of range; LIMIT_REACHED if there are 16.",
                PromiseSentences::sixteen);
    }

    private static void settings() {
        test("Promise 4", "line: number of the line", PromiseSentences::lineToMask);
        test("Promise 4", "is: 1 or 0", PromiseSentences::maskIs);
        test("Promise 4", "INVALID_ARGUMENT if an argument is out of range", PromiseSentences::maskOutOfRange);
        test("Promise 4", "Returns how many lines are masked then", PromiseSentences::howManyMasked);
        test("Promise 4", "NOT_POSSIBLE if it is so already.", PromiseSentences::maskedAlready);
        test("Promise 5", "node: number of the node", PromiseSentences::nodeToMask);
        test("Promise 5", "is: 1 or 0", PromiseSentences::nodeMaskIs);
        test("Promise 5", "INVALID_ARGUMENT if an argument is out of range", PromiseSentences::maskNodeOutOfRange);
        test("Promise 5", "Returns how many lines have this node on their way", PromiseSentences::howManyBelow);
        test("Promise 5", "NOT_POSSIBLE if it is so already.", PromiseSentences::nodeMaskedAlready);
        test("Promise 6", "rank: 0 to 8", PromiseSentences::thresholdRange);
        test("Promise 6", "Returns what it was; INVALID_ARGUMENT if rank is out of range.",
                PromiseSentences::thresholdBefore);
        test("Promise 7", "those that are on their way stay as they are.", PromiseSentences::onTheirWay);
        test("Promise 7", "ticks: 0 to 50", PromiseSentences::lateRange);
        test("Promise 7", "Returns what it was; INVALID_ARGUMENT if ticks is out of range.",
                PromiseSentences::lateBefore);
    }

    private static void whatIsTold() {
        test("Promise 8", "line: number of the line", PromiseSentences::lineToTell);
        test("Promise 8", "INVALID_ARGUMENT if an argument is out of range", PromiseSentences::lineOfOutOfRange);
        test("Promise 8", "0: its node; 1: its rank; 2: 0 if it is one of edges, 1 of a level; 3: 1 if it is lit,"
                + " otherwise 0", PromiseSentences::whatALineIs);
        test("Promise 8", "5: 1 if it is masked, otherwise 0; 6: 1 if it is ready, otherwise 0",
                PromiseSentences::maskedOrReady);
        test("Promise 8", "4: 0 if it is open, 1 if it is in service, 2 if it waits for its acknowledge",
                PromiseSentences::stages);
        test("Promise 8", "7: its edges so far; 8: of these, how many were lost; 9: how often it was taken",
                PromiseSentences::accounts);
        test("Promise 8", "10: the longest wait so far", PromiseSentences::longestWait);
        test("Promise 8", "11: in how many ticks its acknowledge comes", PromiseSentences::ticksLeft);
        test("Promise 8", "NOT_FOUND for 10 if it is one of a level or was never taken",
                PromiseSentences::noLongestWait);
        test("Promise 8", "for 11 if it waits for none.", PromiseSentences::noTicksLeft);
        test("Promise 9", "node: number of the node", PromiseSentences::nodeToTell);
        test("Promise 9", "0: the node on which it hangs", PromiseSentences::nodeAbove);
        test("Promise 9", "INVALID_ARGUMENT if an argument is out of range", PromiseSentences::nodeOfOutOfRange);
        test("Promise 9", "NOT_FOUND for 0 of node 0.", PromiseSentences::noNodeAbove);
        test("Promise 9", "1: 1 if it is turning, otherwise 0", PromiseSentences::turningNodes);
        test("Promise 9", "2: its inputs", PromiseSentences::numberOfInputs);
        test("Promise 9", "3: 1 if it is masked, otherwise 0", PromiseSentences::maskedNodes);
        test("Promise 9", "4: how many lines have it on their way; 5: the set of these that are lit",
                PromiseSentences::litBelow);
        test("Promise 10", "node: number of the node", PromiseSentences::nodeOfInputs);
        test("Promise 10", "index: 0 for the first one in its order, and so on", PromiseSentences::firstInput);
        test("Promise 10", "Returns the number of the line, or 100 plus the number of the node",
                PromiseSentences::numbersOfInputs);
        test("Promise 10", "INVALID_ARGUMENT if there is no such node or index is negative",
                PromiseSentences::noSuchInputs);
        test("Promise 10", "NOT_FOUND if there are not so many.", PromiseSentences::notSoManyInputs);
    }

    private static void events() {
        test("Promise 11", "line: number of the line", PromiseSentences::lineOfEdge);
        test("Promise 11", "Returns 1 if the line becomes lit by it, 0 if it is lost", PromiseSentences::litOrLost);
        test("Promise 11", "INVALID_ARGUMENT; NOT_POSSIBLE if the line is one of a level.",
                PromiseSentences::edgeOfALevel);
        test("Promise 12", "Returns how many lines of both kinds are lit then", PromiseSentences::howManyLit);
        test("Promise 12", "line: number of the line", PromiseSentences::lineOfLevel);
        test("Promise 12", "level: 0 or 1", PromiseSentences::levelRange);
        test("Promise 12", "INVALID_ARGUMENT if an argument is out of range", PromiseSentences::levelOutOfRange);
        test("Promise 12", "NOT_POSSIBLE if the line is one of edges, or its level is so already.",
                PromiseSentences::levelSoAlready);
        test("Promise 13", "Returns its number", PromiseSentences::numbersTaken);
        test("Promise 13", "LIMIT_REACHED if 4 lines are in service", PromiseSentences::fourAreInService);
        test("Promise 13", "NOT_FOUND if no line is ready.", PromiseSentences::noneToTake);
        test("Promise 14", "Returns its number", PromiseSentences::numbersDone);
        test("Promise 14", "NOT_POSSIBLE if none is in service.", PromiseSentences::noneToBeDone);
        test("Promise 15", "ticks: 1 to 99", PromiseSentences::tickRange);
        test("Promise 15", "INVALID_ARGUMENT if ticks is out of range", PromiseSentences::tickOutOfRange);
        test("Promise 15", "Returns how many acknowledges come", PromiseSentences::howManyCome);
        test("Promise 15", "LIMIT_REACHED if the time would be above 50000.", PromiseSentences::lastTime);
    }

    private static void whoIsNext() {
        test("Promise 16", "Returns its number", PromiseSentences::numbersNext);
        test("Promise 16", "(however many are in service).", PromiseSentences::nextOfFour);
        test("Promise 16", "NOT_FOUND if no line is ready.", PromiseSentences::noNext);
        test("Promise 17", "(however many are in service)", PromiseSentences::orderOfFour);
        test("Promise 17", "if the next one was taken, done and acknowledged at once, again and again",
                PromiseSentences::againAndAgain);
        test("Promise 17", "the levels of lines of a level became 0 when they are taken.",
                PromiseSentences::levelsBecome0);
        test("Promise 17", "index: 0 for the first one, and so on", PromiseSentences::allInOrder);
        test("Promise 17", "INVALID_ARGUMENT if index is negative", PromiseSentences::orderNegative);
        test("Promise 17", "NOT_FOUND if there are not so many.", PromiseSentences::notSoManyInOrder);
        test("Promise 18", "index: 0 for the one that was taken last, and so on", PromiseSentences::lastTakenFirst);
        test("Promise 18", "INVALID_ARGUMENT if index is negative", PromiseSentences::serviceNegative);
        test("Promise 18", "NOT_FOUND if there are not so many.", PromiseSentences::notSoManyInService);
        test("Promise 19", "index: 0 for the one whose acknowledge comes first, of several the one that was done"
                + " first, and so on", PromiseSentences::firstAcknowledgeFirst);
        test("Promise 19", "INVALID_ARGUMENT if index is negative", PromiseSentences::waitingNegative);
        test("Promise 19", "NOT_FOUND if there are not so many.", PromiseSentences::notSoManyWaiting);
    }

    private static void sets() {
        test("Promise 20", "0: lit; 1: ready; 2: in service; 3: waiting for acknowledges",
                PromiseSentences::linesByState);
        test("Promise 20", "4: masked themselves; 5: masked, themselves or by a node on their way",
                PromiseSentences::maskedLines);
        test("Promise 20", "INVALID_ARGUMENT if what is out of range.", PromiseSentences::linesOutOfRange);
        test("Promise 21", "INVALID_ARGUMENT if what is out of range.", PromiseSentences::countOutOfRange);
        test("Promise 21", "0: nodes; 1: lines; 2: the time", PromiseSentences::nodesLinesTime);
        test("Promise 21", "8: the threshold; 9: how late acknowledges come", PromiseSentences::settingsNow);
        test("Promise 21", "3: edges so far; 4: edges that were lost; 5: edges that are lit now",
                PromiseSentences::edgeNumbers);
        test("Promise 21", "6: lines of edges that were taken so far, each time counted; 7: lines of levels that"
                + " were taken so far, each time counted", PromiseSentences::takenNumbers);
        test("Promise 21", "10: acknowledges that came so far", PromiseSentences::acknowledgesSoFar);
        test("Promise 21", "11: states in the history; 12: the length of the text", PromiseSentences::lengths);
        test("Promise 22", "Restores the latest state of the history, which is removed from it.",
                PromiseSentences::latestState);
        test("Promise 22", "Returns the number of states that are left in the history; NOT_POSSIBLE if it is empty.",
                PromiseSentences::statesLeft);
    }

    private static void texts() {
        test("Promise 23", "character: 32 to 126", PromiseSentences::characterRange);
        test("Promise 23", "Returns the length of the text", PromiseSentences::lengthOfText);
        test("Promise 23", "INVALID_ARGUMENT if character is out of range", PromiseSentences::characterOutOfRange);
        test("Promise 23", "LIMIT_REACHED if it has 60 characters.", PromiseSentences::sixtyCharacters);
        test("Promise 24", "Returns the length it had.", PromiseSentences::lengthItHad);
        test("Promise 25", "INVALID_ARGUMENT if what is out of range", PromiseSentences::faultOutOfRange);
        test("Promise 25", "what: 0: its position; 1: its reason", PromiseSentences::positionAndReason);
        test("Promise 25", "NOT_FOUND if the text has no fault (also if it is empty).", PromiseSentences::noFault);
        test("Promise 26", "Does all events of the text, which stays.", PromiseSentences::textStays);
        test("Promise 26", "They are one change, also if there are none.", PromiseSentences::oneChange);
        test("Promise 26", "Returns how many there are in it", PromiseSentences::howManyEvents);
        test("Promise 26", "NOT_POSSIBLE if it has a fault.", PromiseSentences::playOfAFault);
    }

    private static void aNewBoard() {
        LampRanks x = new LampRanks();
        int[] due = {1, 0, 0, 0, 0, 0, 0, 0, 0, 3, 0, 0, 0};
        for (int what = 0; what < due.length; what++) {
            due(due[what], x.count(what));
        }
        for (int what = 0; what <= 5; what++) {
            due(0, x.lines(what));
            due(what == 0 ? NOT_FOUND : 0, x.nodeOf(0, what));
        }
        order(x);
        inputs(x, 0);
        due(NOT_FOUND, x.next());
        due(NOT_FOUND, x.serviceAt(0));
        due(NOT_FOUND, x.waitingAt(0));
        due(NOT_FOUND, x.fault(0));
        due(NOT_FOUND, x.take());
        due(NOT_POSSIBLE, x.done());
        due(NOT_POSSIBLE, x.undo());
        // One board knows nothing of another one.
        LampRanks other = litOfRanks(1, 2);
        other.node(0, 1);
        other.tick(1);
        withText(other, "x;");
        due(0, x.count(1));
        due(1, new LampRanks().count(0));
        due(0, new LampRanks().count(12));
    }

    private static void onWhichItHangs() {
        LampRanks x = new LampRanks();
        each(INVALID, outside(0, 0), on -> x.node(on, 0));
        due(1, x.node(0, 0));
        each(INVALID, outside(0, 1), on -> x.node(on, 1));
        due(2, x.node(1, 0));
        due(3, x.node(0, 0));
        due(1, x.nodeOf(2, 0));
        due(0, x.nodeOf(3, 0));
        inputs(x, 0, 101, 103);
        inputs(x, 1, 102);
    }

    private static void turningOrFixed() {
        LampRanks x = new LampRanks();
        each(INVALID, outside(0, 1), turning -> x.node(0, turning));
        due(1, x.count(0));
        due(1, x.node(0, 1));
        due(2, x.node(0, 0));
        due(1, x.nodeOf(1, 1));
        due(0, x.nodeOf(2, 1));
    }

    private static void numbersOfNodes() {
        LampRanks x = new LampRanks();
        due(1, x.node(0, 0));
        x.line(1, 1, 0);
        due(2, x.node(1, 1));
        x.undo();
        // The number of one that was undone is used again.
        due(2, x.node(0, 0));
        due(INVALID, x.node(3, 0));
        for (int number = 3; number <= 5; number++) {
            due(number, x.node(0, 0));
        }
        due(6, x.count(0));
    }

    private static void numbersOfLines() {
        LampRanks x = new LampRanks();
        due(0, x.line(0, 7, 0));
        x.node(0, 0);
        due(1, x.line(1, 0, 1));
        x.undo();
        due(1, x.line(0, 3, 0));
        due(3, x.lineOf(1, 1));
        due(INVALID, x.line(0, 8, 0));
        for (int number = 2; number <= 15; number++) {
            due(number, x.line(number % 2, number % 8, number % 2));
        }
        due(16, x.count(1));
    }

    private static void sixNodes() {
        LampRanks x = new LampRanks();
        for (int node = 1; node <= 5; node++) {
            due(node, x.node(node / 2, node % 2));
        }
        due(LIMIT, x.node(0, 0));
        due(LIMIT, x.node(5, 1));
        due(INVALID, x.node(6, 0));
        due(INVALID, x.node(0, 2));
        x.undo();
        due(5, x.count(0));
        due(5, x.node(4, 0));
        due(4, x.nodeOf(5, 0));
        due(LIMIT, x.node(0, 0));
    }

    private static void nodeOfALine() {
        LampRanks x = new LampRanks();
        each(INVALID, outside(0, 0), on -> x.line(on, 1, 0));
        LampRanks most = chain(0);
        each(INVALID, outside(0, 5), on -> most.line(on, 1, 0));
        for (int node = 0; node <= 5; node++) {
            due(node, most.line(node, 1, 0));
            due(node, most.lineOf(node, 0));
        }
    }

    private static void rankOfALine() {
        LampRanks x = new LampRanks();
        each(INVALID, outside(0, 7), rank -> x.line(0, rank, 0));
        each(INVALID, outside(0, 7), rank -> x.line(0, rank, 1));
        due(0, x.count(1));
        due(0, x.line(0, 0, 0));
        due(1, x.line(0, 7, 0));
        due(0, x.lineOf(0, 1));
        due(7, x.lineOf(1, 1));
    }

    private static void kindOfALine() {
        LampRanks x = new LampRanks();
        each(INVALID, outside(0, 1), level -> x.line(0, 1, level));
        due(0, x.count(1));
        due(0, x.line(0, 1, 1));
        due(1, x.line(0, 1, 0));
        due(1, x.lineOf(0, 2));
        due(0, x.lineOf(1, 2));
    }

    private static void sixteen() {
        LampRanks x = sixteenLines(1);
        due(LIMIT, x.line(0, 0, 0));
        due(LIMIT, x.line(0, 7, 1));
        due(INVALID, x.line(0, -1, 0));
        due(INVALID, x.line(0, 8, 0));
        due(INVALID, x.line(0, 0, -1));
        due(INVALID, x.line(1, 0, 0));
        due(16, x.count(1));
        x.undo();
        due(15, x.count(1));
        due(15, x.line(0, 7, 1));
        due(7, x.lineOf(15, 1));
        due(LIMIT, x.line(0, 0, 0));
    }

    private static void lineToMask() {
        due(INVALID, new LampRanks().mask(0, 1));
        LampRanks x = sixteenLines(1);
        each(INVALID, outside(0, 15), line -> x.mask(line, 1));
        due(0, x.lines(4));
        due(1, x.mask(15, 1));
        due(2, x.mask(0, 1));
        due(32769, x.lines(4));
    }

    private static void maskIs() {
        LampRanks x = ofRanks(1);
        each(INVALID, outside(0, 1), is -> x.mask(0, is));
        due(0, x.lines(4));
        due(1, x.mask(0, 1));
        each(INVALID, outside(0, 1), is -> x.mask(0, is));
        due(1, x.lines(4));
        due(0, x.mask(0, 0));
    }

    private static void maskOutOfRange() {
        LampRanks x = ofRanks(1, 2);
        each(INVALID, outside(0, 1), line -> x.mask(line, 0));
        each(INVALID, outside(0, 1), line -> x.mask(line, 2));
        each(INVALID, outside(0, 1), is -> x.mask(2, is));
        due(0, x.lines(4));
        due(2, x.count(11));
    }

    private static void howManyMasked() {
        LampRanks x = sixteenLines(1);
        x.maskNode(0, 1);
        for (int line = 0; line <= 15; line++) {
            due(line + 1, x.mask(line, 1));
        }
        due(15, x.mask(7, 0));
        x.maskNode(0, 0);
        for (int line = 0; line <= 6; line++) {
            due(14 - line, x.mask(line, 0));
        }
        for (int line = 8; line <= 15; line++) {
            due(15 - line, x.mask(line, 0));
        }
        due(0, x.lines(4));
    }

    private static void maskedAlready() {
        LampRanks x = ofRanks(1, 2);
        due(NOT_POSSIBLE, x.mask(0, 0));
        x.mask(0, 1);
        due(NOT_POSSIBLE, x.mask(0, 1));
        due(NOT_POSSIBLE, x.mask(1, 0));
        due(0, x.mask(0, 0));
        due(NOT_POSSIBLE, x.mask(0, 0));
        // A node on its way doesn't mask the line itself.
        x.maskNode(0, 1);
        due(NOT_POSSIBLE, x.mask(0, 0));
        due(1, x.mask(0, 1));
        due(NOT_POSSIBLE, x.mask(0, 1));
    }

    private static void nodeToMask() {
        LampRanks x = chain(0);
        x.line(5, 1, 0);
        each(INVALID, outside(0, 5), node -> x.maskNode(node, 1));
        due(0, x.lines(5));
        due(1, x.maskNode(5, 1));
        due(1, x.maskNode(0, 1));
        due(1, x.nodeOf(5, 3) & x.nodeOf(0, 3));
    }

    private static void nodeMaskIs() {
        LampRanks x = new LampRanks();
        each(INVALID, outside(0, 1), is -> x.maskNode(0, is));
        due(0, x.nodeOf(0, 3));
        due(0, x.maskNode(0, 1));
        each(INVALID, outside(0, 1), is -> x.maskNode(0, is));
        due(1, x.nodeOf(0, 3));
        due(0, x.maskNode(0, 0));
        due(0, x.nodeOf(0, 3));
    }

    private static void maskNodeOutOfRange() {
        LampRanks x = new LampRanks();
        x.node(0, 0);
        each(INVALID, outside(0, 1), node -> x.maskNode(node, 0));
        each(INVALID, outside(0, 1), node -> x.maskNode(node, 2));
        each(INVALID, outside(0, 1), is -> x.maskNode(2, is));
        due(0, x.nodeOf(0, 3) + x.nodeOf(1, 3));
        due(1, x.count(11));
    }

    private static void howManyBelow() {
        LampRanks x = chain(0);
        for (int node = 0; node <= 5; node++) {
            due(0, x.maskNode(node, 1));
        }
        for (int line = 0; line <= 15; line++) {
            x.line(line == 0 ? 0 : 5, 1, line % 2);
        }
        // Masked lines count as well.
        x.mask(15, 1);
        due(16, x.maskNode(0, 0));
        for (int node = 1; node <= 5; node++) {
            due(15, x.maskNode(node, 0));
        }
    }

    private static void nodeMaskedAlready() {
        LampRanks x = chain(1);
        for (int node = 0; node <= 5; node++) {
            due(NOT_POSSIBLE, x.maskNode(node, 0));
            due(0, x.maskNode(node, 1));
            due(NOT_POSSIBLE, x.maskNode(node, 1));
        }
        for (int node = 0; node <= 5; node++) {
            due(0, x.maskNode(node, 0));
            due(NOT_POSSIBLE, x.maskNode(node, 0));
        }
        // The node above is masked: this one isn't for that.
        x.maskNode(0, 1);
        due(NOT_POSSIBLE, x.maskNode(1, 0));
        due(0, x.maskNode(1, 1));
    }

    private static void thresholdRange() {
        LampRanks x = new LampRanks();
        for (int rank = 1; rank <= 8; rank++) {
            due(rank - 1, x.threshold(rank));
            due(rank, x.count(8));
        }
        due(8, x.threshold(0));
        due(0, x.count(8));
    }

    private static void thresholdBefore() {
        LampRanks x = new LampRanks();
        each(INVALID, outside(0, 8), x::threshold);
        due(0, x.threshold(0));
        due(0, x.threshold(5));
        each(INVALID, outside(0, 8), x::threshold);
        due(5, x.threshold(5));
        due(5, x.threshold(8));
        due(8, x.threshold(8));
    }

    private static void onTheirWay() {
        LampRanks x = litOfRanks(1, 2, 3);
        x.late(10);
        x.take();
        x.done();
        x.tick(4);
        x.late(0);
        due(6, x.lineOf(2, 11));
        due(0, x.count(10));
        x.late(50);
        due(6, x.lineOf(2, 11));
        x.take();
        x.done();
        x.late(1);
        due(0, x.tick(5));
        due(1, x.tick(1));
        due(44, x.lineOf(1, 11));
        due(0, x.tick(43));
        due(1, x.tick(1));
    }

    private static void lateRange() {
        LampRanks x = new LampRanks();
        due(3, x.late(0));
        due(0, x.count(9));
        for (int ticks = 1; ticks <= 50; ticks++) {
            due(ticks - 1, x.late(ticks));
        }
        due(50, x.count(9));
    }

    private static void lateBefore() {
        LampRanks x = new LampRanks();
        each(INVALID, outside(0, 50), x::late);
        due(3, x.late(3));
        due(3, x.late(50));
        each(INVALID, outside(0, 50), x::late);
        due(50, x.late(50));
        due(50, x.late(0));
        due(0, x.late(0));
    }

    private static void lineToTell() {
        due(INVALID, new LampRanks().lineOf(0, 0));
        LampRanks x = sixteenLines(7);
        each(INVALID, outside(0, 15), line -> x.lineOf(line, 1));
        for (int line = 0; line <= 15; line++) {
            due(7, x.lineOf(line, 1));
        }
    }

    private static void lineOfOutOfRange() {
        LampRanks x = ofRanks(1, 2);
        each(INVALID, outside(0, 11), what -> x.lineOf(0, what));
        for (int what = 0; what <= 11; what++) {
            int it = what;
            each(INVALID, outside(0, 1), line -> x.lineOf(line, it));
            due(0, x.lineOf(1, what) == INVALID ? 1 : 0);
        }
        due(INVALID, x.lineOf(2, 12));
    }

    private static void whatALineIs() {
        LampRanks x = chain(0);
        x.line(5, 0, 1);
        x.line(0, 7, 0);
        whatIs(x, 0, 5, 0, 1, 0);
        whatIs(x, 1, 0, 7, 0, 0);
        x.level(0, 1);
        whatIs(x, 0, 5, 0, 1, 1);
        whatIs(x, 1, 0, 7, 0, 0);
        x.edge(1);
        x.level(0, 0);
        whatIs(x, 0, 5, 0, 1, 0);
        whatIs(x, 1, 0, 7, 0, 1);
        for (int line = 2; line <= 15; line++) {
            x.line(line % 6, line % 8, line % 2);
        }
        whatIs(x, 15, 3, 7, 1, 0);
        whatIs(x, 14, 2, 6, 0, 0);
    }

    private static void whatIs(LampRanks x, int line, int... due) {
        for (int what = 0; what < due.length; what++) {
            due(due[what], x.lineOf(line, what));
        }
    }

    private static void maskedOrReady() {
        LampRanks x = ofRanks(3, 3);
        masks(x, 0, 0, 0);
        x.edge(0);
        masks(x, 0, 0, 1);
        x.mask(0, 1);
        masks(x, 0, 1, 0);
        masks(x, 1, 0, 0);
        x.mask(0, 0);
        x.maskNode(0, 1);
        masks(x, 0, 0, 0);
        x.maskNode(0, 0);
        x.threshold(4);
        masks(x, 0, 0, 0);
        x.threshold(3);
        masks(x, 0, 0, 1);
        x.edge(1);
        x.take();
        masks(x, 0, 0, 0);
        masks(x, 1, 0, 0);
        x.done();
        masks(x, 1, 0, 1);
    }

    private static void masks(LampRanks x, int line, int masked, int ready) {
        due(masked, x.lineOf(line, 5));
        due(ready, x.lineOf(line, 6));
    }

    private static void stages() {
        LampRanks x = litOfRanks(1, 1);
        due(0, x.lineOf(0, 4));
        x.take();
        due(1, x.lineOf(0, 4));
        due(0, x.lineOf(1, 4));
        x.late(1);
        x.done();
        due(2, x.lineOf(0, 4));
        x.take();
        due(1, x.lineOf(1, 4));
        x.tick(1);
        due(0, x.lineOf(0, 4));
        x.late(0);
        x.done();
        due(0, x.lineOf(1, 4));
    }

    private static void accounts() {
        LampRanks x = ofRanks(1);
        x.late(0);
        accountsOf(x, 0, 0, 0);
        x.edge(0);
        accountsOf(x, 1, 0, 0);
        x.edge(0);
        accountsOf(x, 2, 1, 0);
        x.take();
        accountsOf(x, 2, 1, 1);
        x.take();
        accountsOf(x, 2, 1, 1);
        x.done();
        x.edge(0);
        x.take();
        accountsOf(x, 3, 1, 2);
        // A line of a level has takings only.
        LampRanks y = new LampRanks();
        y.line(0, 1, 1);
        y.late(0);
        y.level(0, 1);
        y.edge(0);
        accountsOf(y, 0, 0, 0);
        y.take();
        y.done();
        y.take();
        accountsOf(y, 0, 0, 2);
    }

    private static void accountsOf(LampRanks x, int edges, int lost, int taken) {
        due(edges, x.lineOf(0, 7));
        due(lost, x.lineOf(0, 8));
        due(taken, x.lineOf(0, 9));
    }

    private static void longestWait() {
        LampRanks x = ofRanks(1);
        x.late(0);
        int[] waits = {0, 4, 3, 4, 5, 0};
        int[] longest = {0, 4, 4, 4, 5, 5};
        for (int round = 0; round < waits.length; round++) {
            x.edge(0);
            if (waits[round] > 0) {
                x.tick(waits[round]);
            }
            x.take();
            due(longest[round], x.lineOf(0, 10));
            x.tick(9);
            x.done();
            due(longest[round], x.lineOf(0, 10));
        }
        // A wait that isn't over doesn't count yet.
        x.edge(0);
        x.tick(30);
        due(5, x.lineOf(0, 10));
    }

    private static void ticksLeft() {
        LampRanks x = litOfRanks(1);
        x.late(50);
        x.tick(7);
        x.take();
        x.done();
        for (int left = 50; left >= 1; left--) {
            due(left, x.lineOf(0, 11));
            x.tick(1);
        }
        due(NOT_FOUND, x.lineOf(0, 11));
    }

    private static void noLongestWait() {
        LampRanks x = ofRanks(1);
        x.line(0, 1, 1);
        due(NOT_FOUND, x.lineOf(0, 10));
        due(NOT_FOUND, x.lineOf(1, 10));
        x.level(1, 1);
        x.edge(0);
        x.tick(5);
        due(NOT_FOUND, x.lineOf(0, 10));
        due(NOT_FOUND, x.lineOf(1, 10));
        due(0, x.take());
        due(5, x.lineOf(0, 10));
        x.undo();
        due(NOT_FOUND, x.lineOf(0, 10));
        x.take();
        x.done();
        due(1, x.take());
        due(NOT_FOUND, x.lineOf(1, 10));
        x.done();
        due(NOT_FOUND, x.lineOf(1, 10));
        // Taken in the first tick's time: 0 is a wait, too.
        LampRanks y = litOfRanks(1);
        y.take();
        due(0, y.lineOf(0, 10));
    }

    private static void noTicksLeft() {
        LampRanks x = ofRanks(1);
        due(NOT_FOUND, x.lineOf(0, 11));
        x.edge(0);
        due(NOT_FOUND, x.lineOf(0, 11));
        x.take();
        due(NOT_FOUND, x.lineOf(0, 11));
        x.done();
        due(3, x.lineOf(0, 11));
        x.tick(3);
        due(NOT_FOUND, x.lineOf(0, 11));
        x.late(0);
        x.edge(0);
        x.take();
        x.done();
        due(NOT_FOUND, x.lineOf(0, 11));
    }

    private static void nodeToTell() {
        LampRanks x = chain(1);
        x.line(5, 1, 0);
        each(INVALID, outside(0, 5), node -> x.nodeOf(node, 2));
        for (int node = 0; node <= 5; node++) {
            due(1, x.nodeOf(node, 2));
        }
        due(INVALID, new LampRanks().nodeOf(1, 2));
    }

    private static void nodeAbove() {
        LampRanks x = new LampRanks();
        int[] on = {0, 0, 2, 1, 4};
        for (int node = 1; node <= 5; node++) {
            x.node(on[node - 1], 1);
            due(on[node - 1], x.nodeOf(node, 0));
        }
        x.undo();
        x.node(0, 0);
        due(0, x.nodeOf(5, 0));
        due(1, x.nodeOf(4, 0));
    }

    private static void nodeOfOutOfRange() {
        LampRanks x = new LampRanks();
        x.node(0, 1);
        each(INVALID, outside(0, 5), what -> x.nodeOf(1, what));
        each(INVALID, outside(0, 5), what -> x.nodeOf(0, what));
        for (int what = 0; what <= 5; what++) {
            int it = what;
            each(INVALID, outside(0, 1), node -> x.nodeOf(node, it));
            due(what == 1 ? 1 : 0, x.nodeOf(1, what));
        }
    }

    private static void noNodeAbove() {
        LampRanks x = chain(1);
        due(NOT_FOUND, x.nodeOf(0, 0));
        for (int node = 1; node <= 5; node++) {
            due(node - 1, x.nodeOf(node, 0));
        }
        for (int what = 1; what <= 5; what++) {
            due(what == 2 ? 1 : 0, x.nodeOf(0, what));
        }
    }

    private static void turningNodes() {
        LampRanks x = new LampRanks();
        for (int node = 1; node <= 5; node++) {
            x.node(node - 1, node % 2);
        }
        for (int node = 0; node <= 5; node++) {
            due(node % 2, x.nodeOf(node, 1));
        }
        // Added, undone, and added as the other kind.
        x.undo();
        x.node(0, 0);
        due(0, x.nodeOf(5, 1));
    }

    private static void maskedNodes() {
        LampRanks x = chain(0);
        for (int node = 0; node <= 5; node++) {
            x.maskNode(node, 1);
            for (int other = 0; other <= 5; other++) {
                due(other == node ? 1 : 0, x.nodeOf(other, 3));
            }
            x.maskNode(node, 0);
        }
        x.maskNode(0, 1);
        x.maskNode(5, 1);
        due(1, x.nodeOf(0, 3));
        due(0, x.nodeOf(4, 3));
        due(1, x.nodeOf(5, 3));
        x.maskNode(0, 0);
        due(0, x.nodeOf(0, 3));
        due(1, x.nodeOf(5, 3));
    }

    /** 16 lines and 5 nodes can hang on one. */
    private static void numberOfInputs() {
        LampRanks x = new LampRanks();
        due(0, x.nodeOf(0, 2));
        for (int node = 1; node <= 5; node++) {
            x.node(0, 1);
            due(node, x.nodeOf(0, 2));
        }
        for (int line = 0; line <= 15; line++) {
            x.line(0, 1, 0);
            due(line + 6, x.nodeOf(0, 2));
        }
        due(0, x.nodeOf(5, 2));
        // Inputs of inputs aren't its own.
        LampRanks y = chain(0);
        y.line(5, 1, 0);
        due(1, y.nodeOf(0, 2));
        due(1, y.nodeOf(5, 2));
    }

    private static void litBelow() {
        LampRanks x = chain(0);
        for (int line = 0; line <= 15; line++) {
            x.line(line == 0 ? 0 : 5, 1, line % 2);
        }
        due(16, x.nodeOf(0, 4));
        due(15, x.nodeOf(1, 4));
        due(15, x.nodeOf(5, 4));
        due(0, x.nodeOf(0, 5));
        x.edge(0);
        x.level(15, 1);
        due(32769, x.nodeOf(0, 5));
        due(32768, x.nodeOf(4, 5));
        for (int line = 1; line <= 14; line++) {
            due(1, line % 2 == 0 ? x.edge(line) : Math.min(1, x.level(line, 1)));
        }
        due(65535, x.nodeOf(0, 5));
        due(65534, x.nodeOf(5, 5));
        // Masked or not, they are lit.
        x.maskNode(5, 1);
        x.mask(1, 1);
        due(65534, x.nodeOf(5, 5));
        due(15, x.nodeOf(5, 4));
    }

    private static void nodeOfInputs() {
        LampRanks x = chain(0);
        x.line(5, 1, 0);
        each(INVALID, outside(0, 5), node -> x.inputAt(node, 0));
        due(INVALID, x.inputAt(105, 0));
        due(101, x.inputAt(0, 0));
        due(105, x.inputAt(4, 0));
        due(0, x.inputAt(5, 0));
    }

    private static void firstInput() {
        LampRanks x = new LampRanks();
        x.node(0, 1);
        x.line(1, 1, 0);
        x.line(1, 1, 0);
        x.line(1, 1, 0);
        inputs(x, 1, 0, 1, 2);
        x.edge(0);
        x.take();
        inputs(x, 1, 1, 2, 0);
        inputs(x, 0, 101);
    }

    private static void numbersOfInputs() {
        LampRanks x = new LampRanks();
        for (int node = 1; node <= 5; node++) {
            x.node(0, 0);
        }
        for (int line = 0; line <= 15; line++) {
            x.line(0, 1, 0);
        }
        inputs(x, 0, 101, 102, 103, 104, 105, 0, 1, 2, 3, 4, 5, 6, 7, 8, 9, 10, 11, 12, 13, 14, 15);
        // As many as there can be on a node that turns: 16 lines and 4 nodes.
        LampRanks y = new LampRanks();
        y.node(0, 1);
        for (int line = 0; line <= 15; line++) {
            y.line(1, 1, 0);
        }
        for (int node = 2; node <= 5; node++) {
            y.node(1, 0);
        }
        y.edge(0);
        y.take();
        inputs(y, 1, 1, 2, 3, 4, 5, 6, 7, 8, 9, 10, 11, 12, 13, 14, 15, 102, 103, 104, 105, 0);
    }

    private static void noSuchInputs() {
        LampRanks x = ofRanks(1);
        each(INVALID, outside(0, 0), node -> x.inputAt(node, 0));
        each(INVALID, outside(0, 0), node -> x.inputAt(node, MOST));
        due(INVALID, x.inputAt(0, -1));
        due(INVALID, x.inputAt(0, LEAST));
        due(INVALID, x.inputAt(1, -1));
        due(0, x.inputAt(0, 0));
        LampRanks y = new LampRanks();
        due(INVALID, y.inputAt(0, -1));
        due(INVALID, y.inputAt(100, 0));
    }

    private static void notSoManyInputs() {
        LampRanks x = new LampRanks();
        due(NOT_FOUND, x.inputAt(0, 0));
        due(NOT_FOUND, x.inputAt(0, MOST));
        x.node(0, 1);
        x.line(1, 1, 0);
        each(NOT_FOUND, new int[] {1, 2, 21, 22, 32, 256, 65536, MOST}, index -> x.inputAt(0, index));
        each(NOT_FOUND, new int[] {1, 2, 21, 22, 32, 256, 65536, MOST}, index -> x.inputAt(1, index));
        due(0, x.inputAt(1, 0));
        // An input that was undone isn't there any more.
        x.line(1, 1, 0);
        x.undo();
        due(NOT_FOUND, x.inputAt(1, 1));
        LampRanks most = sixteenLines(1);
        due(15, most.inputAt(0, 15));
        due(NOT_FOUND, most.inputAt(0, 16));
    }

    private static void lineOfEdge() {
        due(INVALID, new LampRanks().edge(0));
        LampRanks x = sixteenLines(1);
        each(INVALID, outside(0, 15), x::edge);
        due(0, x.count(3));
        due(1, x.edge(0));
        due(1, x.edge(15));
        due(32769, x.lines(0));
    }

    private static void litOrLost() {
        LampRanks x = sixteenLines(1);
        for (int line : new int[] {0, 15}) {
            due(1, x.edge(line));
            due(0, x.edge(line));
            due(0, x.edge(line));
            due(2, x.lineOf(line, 8));
        }
        x.take();
        due(1, x.edge(0));
        due(0, x.edge(0));
        x.undo();
        x.undo();
        due(1, x.edge(0));
    }

    private static void edgeOfALevel() {
        LampRanks x = ofRanks(1);
        x.line(0, 1, 1);
        each(INVALID, outside(0, 1), x::edge);
        due(NOT_POSSIBLE, x.edge(1));
        x.level(1, 1);
        due(NOT_POSSIBLE, x.edge(1));
        x.take();
        due(NOT_POSSIBLE, x.edge(1));
        due(0, x.count(3));
        due(1, x.edge(0));
    }

    private static void howManyLit() {
        LampRanks x = new LampRanks();
        for (int line = 0; line <= 15; line++) {
            x.line(0, 1, line % 2);
        }
        due(1, x.level(1, 1));
        due(0, x.level(1, 0));
        for (int line = 0; line <= 15; line += 2) {
            x.edge(line);
            due(line + 2, x.level(line + 1, 1));
        }
        due(15, x.level(15, 0));
        // Masked ones and one in service are lit, too.
        x.mask(1, 1);
        x.mask(0, 1);
        x.mask(2, 1);
        due(3, x.take());
        due(16, x.level(15, 1));
        x.maskNode(0, 1);
        due(15, x.level(3, 0));
    }

    private static void lineOfLevel() {
        due(INVALID, new LampRanks().level(0, 1));
        LampRanks x = new LampRanks();
        for (int line = 0; line <= 15; line++) {
            x.line(0, 1, 1);
        }
        each(INVALID, outside(0, 15), line -> x.level(line, 1));
        due(0, x.lines(0));
        due(1, x.level(0, 1));
        due(2, x.level(15, 1));
        due(32769, x.lines(0));
    }

    private static void levelRange() {
        LampRanks x = new LampRanks();
        x.line(0, 1, 1);
        each(INVALID, outside(0, 1), level -> x.level(0, level));
        due(0, x.lines(0));
        due(1, x.level(0, 1));
        each(INVALID, outside(0, 1), level -> x.level(0, level));
        due(1, x.lines(0));
        due(0, x.level(0, 0));
    }

    private static void levelOutOfRange() {
        LampRanks x = ofRanks(1);
        x.line(0, 1, 1);
        // Line 0 is one of edges, and the level of line 1 is 0 already.
        each(INVALID, outside(0, 1), level -> x.level(0, level));
        each(INVALID, outside(0, 1), line -> x.level(line, 0));
        each(INVALID, outside(0, 1), line -> x.level(line, 2));
        due(NOT_POSSIBLE, x.level(0, 1));
        due(NOT_POSSIBLE, x.level(1, 0));
        due(1, x.level(1, 1));
    }

    private static void levelSoAlready() {
        LampRanks x = ofRanks(1);
        x.line(0, 1, 1);
        due(NOT_POSSIBLE, x.level(0, 0));
        due(NOT_POSSIBLE, x.level(0, 1));
        x.edge(0);
        due(NOT_POSSIBLE, x.level(0, 0));
        due(NOT_POSSIBLE, x.level(0, 1));
        due(NOT_POSSIBLE, x.level(1, 0));
        due(2, x.level(1, 1));
        due(NOT_POSSIBLE, x.level(1, 1));
        x.mask(0, 1);
        due(1, x.take());
        due(NOT_POSSIBLE, x.level(1, 1));
        x.done();
        due(NOT_POSSIBLE, x.level(1, 1));
        due(1, x.level(1, 0));
        due(NOT_POSSIBLE, x.level(1, 0));
    }

    private static void numbersTaken() {
        LampRanks x = sixteenLines(1);
        x.late(0);
        for (int line = 15; line >= 0; line--) {
            x.edge(line);
            due(line, x.take());
            x.done();
        }
        edges(x, 15, 0, 7);
        due(0, x.take());
        x.done();
        due(7, x.take());
        x.done();
        due(15, x.take());
    }

    private static void fourAreInService() {
        LampRanks x = ofRanks(0, 1, 2, 3, 4);
        for (int line = 0; line <= 3; line++) {
            x.edge(line);
            due(line, x.take());
        }
        due(LIMIT, x.take());
        x.edge(4);
        due(LIMIT, x.take());
        x.mask(4, 1);
        due(LIMIT, x.take());
        due(4, x.count(6));
        x.mask(4, 0);
        x.done();
        due(4, x.take());
        due(LIMIT, x.take());
    }

    private static void noneToTake() {
        LampRanks x = ofRanks(3);
        due(NOT_FOUND, x.take());
        x.edge(0);
        x.threshold(4);
        due(NOT_FOUND, x.take());
        x.threshold(3);
        x.mask(0, 1);
        due(NOT_FOUND, x.take());
        x.mask(0, 0);
        x.maskNode(0, 1);
        due(NOT_FOUND, x.take());
        x.maskNode(0, 0);
        due(0, x.take());
        due(NOT_FOUND, x.take());
        x.edge(0);
        due(NOT_FOUND, x.take());
        x.done();
        due(NOT_FOUND, x.take());
        x.tick(3);
        due(0, x.take());
        due(2, x.count(6));
    }

    private static void numbersDone() {
        LampRanks x = sixteenLines(1);
        edges(x, 0, 15);
        x.take();
        due(0, x.done());
        x.take();
        due(15, x.done());
        LampRanks y = ofRanks(4, 2);
        edges(y, 1);
        y.take();
        edges(y, 0, 1);
        y.take();
        due(0, y.done());
        due(1, y.done());
    }

    private static void noneToBeDone() {
        LampRanks x = ofRanks(1);
        due(NOT_POSSIBLE, x.done());
        x.edge(0);
        due(NOT_POSSIBLE, x.done());
        x.take();
        due(0, x.done());
        due(NOT_POSSIBLE, x.done());
        x.tick(3);
        due(NOT_POSSIBLE, x.done());
        due(1, x.count(10));
        LampRanks y = fourInService();
        for (int line = 3; line >= 0; line--) {
            due(line, y.done());
        }
        due(NOT_POSSIBLE, y.done());
        due(15, y.lines(3));
    }

    private static void tickRange() {
        LampRanks x = new LampRanks();
        due(0, x.tick(1));
        due(1, x.count(2));
        due(0, x.tick(99));
        due(100, x.count(2));
        due(0, x.tick(2));
        due(0, x.tick(98));
        due(200, x.count(2));
    }

    private static void tickOutOfRange() {
        LampRanks x = new LampRanks();
        each(INVALID, outside(1, 99), x::tick);
        due(INVALID, x.tick(0));
        due(0, x.count(2));
        due(0, x.count(11));
        LampRanks last = atTime(50000);
        each(INVALID, outside(1, 99), last::tick);
        due(50000, last.count(2));
    }

    private static void howManyCome() {
        LampRanks x = sixteenLines(1);
        x.late(50);
        for (int line = 0; line <= 15; line++) {
            x.edge(line);
            due(line, x.take());
            x.done();
        }
        due(0, x.tick(49));
        due(65535, x.lines(3));
        due(16, x.tick(1));
        due(0, x.lines(3));
        due(16, x.count(10));
        due(0, x.tick(50));
        // One that comes at once isn't of the next tick.
        x.late(0);
        x.edge(0);
        x.take();
        x.done();
        due(0, x.tick(1));
        due(17, x.count(10));
        LampRanks y = litOfRanks(1, 2);
        y.take();
        y.done();
        y.tick(1);
        y.take();
        y.done();
        due(1, y.tick(2));
        due(1, y.tick(99));
    }

    private static void lastTime() {
        LampRanks x = atTime(49901);
        due(0, x.tick(99));
        due(50000, x.count(2));
        due(LIMIT, x.tick(1));
        due(LIMIT, x.tick(99));
        x.undo();
        due(49901, x.count(2));
        due(0, x.tick(1));
        due(LIMIT, x.tick(99));
        due(49902, x.count(2));
        due(0, x.tick(98));
        due(50000, x.count(2));
        // Acknowledges that are due later don't come any more; other calls go on.
        LampRanks y = atTime(49999);
        y.line(0, 1, 0);
        y.edge(0);
        y.take();
        y.late(2);
        y.done();
        due(0, y.tick(1));
        due(1, y.lineOf(0, 11));
        due(LIMIT, y.tick(1));
        due(2, y.lineOf(0, 4));
        due(1, y.edge(0));
        due(NOT_FOUND, y.take());
    }

    private static void numbersNext() {
        LampRanks x = sixteenLines(1);
        for (int line = 15; line >= 0; line--) {
            x.edge(line);
            due(line, x.next());
        }
        for (int line = 0; line <= 14; line++) {
            x.mask(line, 1);
            due(line + 1, x.next());
        }
    }

    private static void nextOfFour() {
        LampRanks x = fourInService();
        due(NOT_FOUND, x.next());
        x.edge(4);
        due(4, x.next());
        due(LIMIT, x.take());
        due(4, x.next());
        x.done();
        due(4, x.next());
        due(4, x.take());
        due(NOT_FOUND, x.next());
    }

    private static void noNext() {
        LampRanks x = new LampRanks();
        due(NOT_FOUND, x.next());
        x.line(0, 0, 0);
        due(NOT_FOUND, x.next());
        x.edge(0);
        due(0, x.next());
        due(0, x.next());
        x.mask(0, 1);
        due(NOT_FOUND, x.next());
        x.mask(0, 0);
        x.threshold(1);
        due(NOT_FOUND, x.next());
        x.threshold(0);
        x.take();
        due(NOT_FOUND, x.next());
    }

    private static void orderOfFour() {
        LampRanks x = ofRanks(1, 2, 3, 4, 5, 6, 6, 4);
        for (int line = 0; line < 4; line++) {
            x.edge(line);
            x.take();
        }
        order(x);
        edges(x, 0, 1, 2, 3, 4, 5, 6, 7);
        // Line 7 isn't above the one that was taken last, and those in service aren't open.
        order(x, 5, 6, 4);
        due(15, x.lines(2));
        due(255, x.lines(0));
        x.done();
        order(x, 5, 6, 4, 7);
    }

    private static void againAndAgain() {
        LampRanks x = new LampRanks();
        x.node(0, 1);
        x.node(1, 1);
        x.line(2, 4, 0);
        x.line(2, 4, 0);
        x.line(1, 4, 0);
        x.line(0, 4, 0);
        x.line(0, 2, 0);
        edges(x, 0, 1, 2, 3, 4);
        // Node 1 has 102, 2: after line 0 its own line 2 is ahead of line 1.
        order(x, 0, 2, 1, 3, 4);
        inputs(x, 1, 102, 2);
        inputs(x, 2, 0, 1);
        due(31, x.lines(0));
        due(0, x.count(6) + x.count(2) + x.count(10));
        due(4, x.count(11));
        // Those taken really come in the same order.
        x.late(0);
        for (int line : new int[] {0, 2, 1, 3, 4}) {
            due(line, x.take());
            x.done();
        }
        // One whose acknowledge is still on its way isn't among them.
        LampRanks y = litOfRanks(3, 5, 1);
        y.take();
        y.done();
        y.edge(1);
        order(y, 0, 2);
        y.tick(3);
        order(y, 1, 0, 2);
        y.threshold(3);
        order(y, 1, 0);
        y.mask(1, 1);
        order(y, 0);
        // Masked nodes keep away the lines below them, at each turn.
        LampRanks z = chain(1);
        for (int node = 0; node <= 5; node++) {
            z.line(node, 4, 0);
            z.edge(node);
        }
        order(z, 5, 1, 2, 3, 4, 0);
        z.maskNode(3, 1);
        order(z, 2, 1, 0);
        z.maskNode(1, 1);
        order(z, 0);
        z.maskNode(0, 1);
        order(z);
    }

    private static void levelsBecome0() {
        LampRanks x = new LampRanks();
        x.line(0, 4, 1);
        x.line(0, 4, 0);
        x.line(0, 7, 1);
        x.level(0, 1);
        order(x, 0);
        x.edge(1);
        x.level(2, 1);
        order(x, 2, 0, 1);
        due(7, x.lines(0));
        due(1, x.lineOf(0, 3));
        order(x, 2, 0, 1);
    }

    private static void allInOrder() {
        LampRanks x = new LampRanks();
        for (int line = 0; line <= 15; line++) {
            x.line(0, line % 8, line / 8);
        }
        for (int line = 0; line <= 7; line++) {
            x.edge(line);
            x.level(line + 8, 1);
        }
        order(x, 7, 15, 6, 14, 5, 13, 4, 12, 3, 11, 2, 10, 1, 9, 0, 8);
        due(7, x.orderAt(0));
        due(x.next(), x.orderAt(0));
    }

    private static void orderNegative() {
        for (LampRanks x : new LampRanks[] {new LampRanks(), litOfRanks(1, 2)}) {
            each(INVALID, new int[] {-1, -2, -16, -32, -256, -65536, LEAST + 1, LEAST}, x::orderAt);
        }
    }

    private static void notSoManyInOrder() {
        LampRanks x = litOfRanks(1, 2);
        each(NOT_FOUND, new int[] {2, 3, 15, 16, 17, 32, 256, 65536, MOST}, x::orderAt);
        due(0, x.orderAt(1));
        due(NOT_FOUND, new LampRanks().orderAt(0));
        due(NOT_FOUND, ofRanks(1).orderAt(0));
        LampRanks most = sixteenLines(1);
        edges(most, 0, 1, 2, 3, 4, 5, 6, 7, 8, 9, 10, 11, 12, 13, 14, 15);
        due(15, most.orderAt(15));
        due(NOT_FOUND, most.orderAt(16));
        due(NOT_FOUND, most.orderAt(MOST));
    }

    private static void lastTakenFirst() {
        LampRanks x = fourInService();
        for (int index = 0; index <= 3; index++) {
            due(3 - index, x.serviceAt(index));
        }
        x.done();
        due(2, x.serviceAt(0));
        due(0, x.serviceAt(2));
        due(NOT_FOUND, x.serviceAt(3));
        // By when they were taken, not by their numbers.
        LampRanks y = ofRanks(6, 2, 4);
        for (int line : new int[] {1, 2, 0}) {
            y.edge(line);
            y.take();
        }
        due(0, y.serviceAt(0));
        due(2, y.serviceAt(1));
        due(1, y.serviceAt(2));
    }

    private static void serviceNegative() {
        for (LampRanks x : new LampRanks[] {new LampRanks(), fourInService()}) {
            each(INVALID, new int[] {-1, -2, -4, -32, -256, -65536, LEAST + 1, LEAST}, x::serviceAt);
        }
    }

    private static void notSoManyInService() {
        int[] most = {4, 5, 15, 16, 21, 32, 256, 65536, MOST - 1, MOST};
        each(NOT_FOUND, most, fourInService()::serviceAt);
        each(NOT_FOUND, most, new LampRanks()::serviceAt);
        LampRanks x = litOfRanks(1);
        due(NOT_FOUND, x.serviceAt(0));
        x.take();
        due(0, x.serviceAt(0));
        due(NOT_FOUND, x.serviceAt(1));
        x.done();
        due(NOT_FOUND, x.serviceAt(0));
    }

    private static void firstAcknowledgeFirst() {
        LampRanks x = fourInService();
        int[] lates = {9, 5, 9, 5};
        for (int late : lates) {
            x.late(late);
            x.done();
        }
        // Lines 3 and 1 are due at 9, lines 2 and 0 at 5.
        waiting(x, 2, 0, 3, 1);
        x.tick(4);
        x.edge(4);
        x.take();
        x.done();
        // Line 4 is due at 9, too, and was done behind lines 3 and 1.
        waiting(x, 2, 0, 3, 1, 4);
        x.tick(1);
        waiting(x, 3, 1, 4);
        // One that overtakes all, and one behind all.
        x.edge(2);
        x.late(1);
        x.take();
        x.done();
        waiting(x, 2, 3, 1, 4);
        x.late(50);
        x.edge(0);
        x.take();
        x.done();
        waiting(x, 2, 3, 1, 4, 0);
        LampRanks y = sixteenLines(1);
        y.late(50);
        for (int line = 15; line >= 0; line--) {
            y.edge(line);
            y.take();
            y.done();
        }
        waiting(y, 15, 14, 13, 12, 11, 10, 9, 8, 7, 6, 5, 4, 3, 2, 1, 0);
    }

    private static void waiting(LampRanks x, int... due) {
        for (int index = 0; index < due.length; index++) {
            due(due[index], x.waitingAt(index));
        }
        due(NOT_FOUND, x.waitingAt(due.length));
    }

    private static void waitingNegative() {
        LampRanks x = litOfRanks(1);
        x.take();
        x.done();
        for (LampRanks it : new LampRanks[] {new LampRanks(), x}) {
            each(INVALID, new int[] {-1, -2, -16, -32, -256, -65536, LEAST + 1, LEAST}, it::waitingAt);
        }
    }

    private static void notSoManyWaiting() {
        int[] most = {1, 2, 15, 16, 20, 21, 32, 256, 65536, MOST};
        LampRanks x = litOfRanks(1);
        due(NOT_FOUND, x.waitingAt(0));
        x.take();
        due(NOT_FOUND, x.waitingAt(0));
        x.done();
        due(0, x.waitingAt(0));
        each(NOT_FOUND, most, x::waitingAt);
        x.tick(3);
        due(NOT_FOUND, x.waitingAt(0));
        x.late(0);
        x.edge(0);
        x.take();
        x.done();
        due(NOT_FOUND, x.waitingAt(0));
    }

    private static void linesByState() {
        LampRanks x = ofRanks(1, 2, 3, 4, 5);
        states(x, 0, 0, 0, 0);
        edges(x, 0, 1, 2, 3, 4);
        states(x, 31, 31, 0, 0);
        x.take();
        states(x, 15, 0, 16, 0);
        x.done();
        states(x, 15, 15, 0, 16);
        x.mask(3, 1);
        x.take();
        states(x, 11, 0, 4, 16);
        x.mask(3, 0);
        states(x, 11, 8, 4, 16);
        x.take();
        states(x, 3, 0, 12, 16);
        x.edge(4);
        x.edge(2);
        states(x, 23, 0, 12, 16);
        x.tick(3);
        states(x, 23, 16, 12, 0);
        x.done();
        x.done();
        states(x, 23, 19, 0, 12);
        x.threshold(2);
        states(x, 23, 18, 0, 12);
    }

    private static void states(LampRanks x, int lit, int ready, int inService, int waiting) {
        due(lit, x.lines(0));
        due(ready, x.lines(1));
        due(inService, x.lines(2));
        due(waiting, x.lines(3));
    }

    private static void maskedLines() {
        LampRanks x = new LampRanks();
        x.node(0, 0);
        x.node(1, 0);
        x.line(0, 1, 0);
        x.line(1, 1, 0);
        x.line(2, 1, 0);
        x.mask(2, 1);
        masked(x, 4, 4);
        x.maskNode(2, 1);
        masked(x, 4, 4);
        x.mask(2, 0);
        masked(x, 0, 4);
        x.maskNode(1, 1);
        masked(x, 0, 6);
        x.maskNode(2, 0);
        masked(x, 0, 6);
        x.mask(0, 1);
        masked(x, 1, 7);
        x.maskNode(0, 1);
        x.mask(0, 0);
        masked(x, 0, 7);
        x.maskNode(1, 0);
        masked(x, 0, 7);
        x.maskNode(0, 0);
        masked(x, 0, 0);
        // A line that is added below a masked node is masked by it.
        x.maskNode(2, 1);
        x.line(2, 1, 0);
        masked(x, 0, 12);
        x.node(2, 0);
        x.line(3, 1, 0);
        masked(x, 0, 28);
    }

    private static void masked(LampRanks x, int themselves, int all) {
        due(themselves, x.lines(4));
        due(all, x.lines(5));
    }

    private static void linesOutOfRange() {
        LampRanks x = litOfRanks(1, 2);
        each(INVALID, outside(0, 5), x::lines);
        for (int what = 0; what <= 5; what++) {
            due(what <= 1 ? 3 : 0, x.lines(what));
        }
    }

    private static void countOutOfRange() {
        LampRanks x = new LampRanks();
        each(INVALID, outside(0, 12), x::count);
        int[] due = {1, 0, 0, 0, 0, 0, 0, 0, 0, 3, 0, 0, 0};
        for (int what = 0; what <= 12; what++) {
            due(due[what], x.count(what));
        }
    }

    private static void nodesLinesTime() {
        LampRanks x = new LampRanks();
        for (int node = 1; node <= 6; node++) {
            due(node, x.count(0));
            x.node(0, 0);
        }
        due(6, x.count(0));
        for (int line = 0; line <= 16; line++) {
            due(Math.min(line, 16), x.count(1));
            x.line(5, 1, line % 2);
        }
        due(16, x.count(1));
        due(0, x.count(2));
        x.tick(99);
        due(99, x.count(2));
        x.undo();
        due(0, x.count(2));
        x.undo();
        due(15, x.count(1));
        due(50000, atTime(50000).count(2));
    }

    private static void settingsNow() {
        LampRanks x = new LampRanks();
        due(0, x.count(8));
        due(3, x.count(9));
        x.threshold(8);
        x.late(50);
        due(8, x.count(8));
        due(50, x.count(9));
        x.late(0);
        x.threshold(9);
        x.late(51);
        due(8, x.count(8));
        due(0, x.count(9));
        x.threshold(0);
        due(0, x.count(8));
        due(0, x.count(9));
        x.undo();
        x.undo();
        due(8, x.count(8));
        due(50, x.count(9));
    }

    private static void edgeNumbers() {
        LampRanks x = sixteenLines(1);
        for (int line = 0; line <= 15; line++) {
            numbers(x, 2 * line, line, line);
            x.edge(line);
            x.edge(line);
        }
        numbers(x, 32, 16, 16);
        x.take();
        numbers(x, 32, 16, 15);
        x.edge(0);
        numbers(x, 33, 16, 16);
        x.edge(0);
        numbers(x, 34, 17, 16);
        // Levels aren't edges.
        LampRanks y = ofRanks(1);
        y.line(0, 2, 1);
        y.level(1, 1);
        numbers(y, 0, 0, 0);
        y.edge(0);
        numbers(y, 1, 0, 1);
        y.take();
        numbers(y, 1, 0, 1);
        LampRanks levels = new LampRanks();
        for (int line = 0; line <= 15; line++) {
            levels.line(0, 1, 1);
            levels.level(line, 1);
        }
        numbers(levels, 0, 0, 0);
    }

    private static void numbers(LampRanks x, int edges, int lost, int lit) {
        due(edges, x.count(3));
        due(lost, x.count(4));
        due(lit, x.count(5));
    }

    private static void takenNumbers() {
        LampRanks x = ofRanks(1);
        x.line(0, 2, 1);
        x.late(0);
        x.level(1, 1);
        for (int times = 1; times <= 3; times++) {
            x.take();
            x.done();
            due(0, x.count(6));
            due(times, x.count(7));
        }
        x.level(1, 0);
        for (int times = 1; times <= 3; times++) {
            due(NOT_FOUND, x.take());
            x.edge(0);
            x.take();
            due(times, x.count(6));
            due(3, x.count(7));
            x.done();
        }
        x.undo();
        x.undo();
        due(2, x.count(6));
    }

    private static void acknowledgesSoFar() {
        LampRanks x = litOfRanks(1, 2, 3);
        x.take();
        due(0, x.count(10));
        x.done();
        due(0, x.count(10));
        x.tick(2);
        due(0, x.count(10));
        x.tick(1);
        due(1, x.count(10));
        x.take();
        x.late(0);
        x.done();
        due(2, x.count(10));
        x.undo();
        due(1, x.count(10));
        x.late(1);
        x.done();
        x.take();
        x.done();
        due(2, x.tick(99));
        due(3, x.count(10));
    }

    private static void lengths() {
        LampRanks x = new LampRanks();
        for (int change = 1; change <= 6; change++) {
            x.tick(1);
            due(Math.min(change, 4), x.count(11));
        }
        due(3, x.undo());
        due(3, x.count(11));
        x.tick(1);
        due(4, x.count(11));
        for (int length = 1; length <= 61; length++) {
            x.type('~');
            due(Math.min(length, 60), x.count(12));
        }
        x.clearText();
        due(0, x.count(12));
    }

    private static void latestState() {
        LampRanks x = ofRanks(1);
        x.edge(0);
        x.tick(1);
        x.take();
        due(NOT_FOUND, x.next());
        x.undo();
        due(0, x.next());
        due(1, x.count(2));
        x.undo();
        due(0, x.count(2));
        // It is removed: a change then records what is there now.
        x.tick(5);
        x.undo();
        due(0, x.count(2));
        due(1, x.lines(0));
        x.undo();
        due(0, x.lines(0));
        x.undo();
        due(0, x.count(1));
        due(NOT_POSSIBLE, x.undo());
        // What was undone can't be undone in its turn.
        LampRanks y = new LampRanks();
        y.tick(1);
        y.undo();
        due(NOT_POSSIBLE, y.undo());
        due(0, y.count(2));
    }

    private static void statesLeft() {
        LampRanks x = new LampRanks();
        due(NOT_POSSIBLE, x.undo());
        x.tick(1);
        due(0, x.undo());
        due(NOT_POSSIBLE, x.undo());
        for (int change = 1; change <= 5; change++) {
            x.tick(1);
        }
        for (int left = 3; left >= 0; left--) {
            due(left, x.undo());
        }
        due(NOT_POSSIBLE, x.undo());
        due(NOT_POSSIBLE, x.undo());
        due(1, x.count(2));
    }

    private static void characterRange() {
        LampRanks x = new LampRanks();
        for (int character = 32; character <= 126; character++) {
            due(1, x.type(character));
            due(1, x.count(12));
            x.clearText();
        }
        fault(x, " ", 0, 1);
        fault(x, "~", 0, 1);
    }

    private static void lengthOfText() {
        LampRanks x = new LampRanks();
        for (int length = 1; length <= 60; length++) {
            due(length, x.type(' '));
            due(length, x.count(12));
        }
        x.clearText();
        due(1, x.type(' '));
    }

    private static void characterOutOfRange() {
        LampRanks x = new LampRanks();
        each(INVALID, outside(32, 126), x::type);
        due(INVALID, x.type(0));
        due(INVALID, x.type(10));
        // A char would take these for a letter and for ";".
        due(INVALID, x.type('e' + 65536));
        due(INVALID, x.type(';' - 65536));
        due(0, x.count(12));
        withText(x, "t1;");
        each(INVALID, outside(32, 126), x::type);
        due(3, x.count(12));
        due(1, x.play());
    }

    private static void sixtyCharacters() {
        LampRanks x = new LampRanks();
        for (int length = 1; length <= 60; length++) {
            due(length, x.type(';'));
        }
        due(LIMIT, x.type(';'));
        due(LIMIT, x.type(32));
        due(LIMIT, x.type(126));
        each(INVALID, outside(32, 126), x::type);
        due(60, x.count(12));
        due(60, x.clearText());
        due(1, x.type(';'));
    }

    private static void lengthItHad() {
        LampRanks x = ofRanks(1);
        due(0, x.clearText());
        withText(x, "e");
        due(1, x.clearText());
        due(0, x.clearText());
        withText(x, "e0;".repeat(20));
        due(60, x.clearText());
        due(0, x.clearText());
        due(0, x.play());
        due(0, x.count(3));
    }

    private static void faultOutOfRange() {
        LampRanks x = new LampRanks();
        each(INVALID, outside(0, 1), x::fault);
        withText(x, "t1;");
        each(INVALID, outside(0, 1), x::fault);
        withText(x, "t1;t0;");
        each(INVALID, outside(0, 1), x::fault);
        due(3, x.fault(0));
        due(2, x.fault(1));
    }

    private static void positionAndReason() {
        LampRanks x = new LampRanks();
        fault(x, "e0;", 0, 2);
        fault(x, "t1;x;", 3, 3);
        fault(x, "t99;t9;?", 7, 1);
        fault(x, "t1;".repeat(19) + "t1", 57, 1);
        withText(x, "t1");
        due(0, x.fault(0));
        due(1, x.fault(1));
        x.type(';');
        due(NOT_FOUND, x.fault(0));
        due(NOT_FOUND, x.fault(1));
    }

    private static void noFault() {
        LampRanks x = new LampRanks();
        fault(x, "", NOT_FOUND, NOT_FOUND);
        fault(x, "x", 0, 1);
        fault(x, "", NOT_FOUND, NOT_FOUND);
        fault(x, "t1;", NOT_FOUND, NOT_FOUND);
        fault(x, "t1;".repeat(20), NOT_FOUND, NOT_FOUND);
        x.line(0, 1, 0);
        fault(x, "e0;x;d;", NOT_FOUND, NOT_FOUND);
        due(0, x.count(3));
    }

    private static void textStays() {
        LampRanks x = ofRanks(1);
        withText(x, "e0;t2;");
        due(2, x.play());
        due(6, x.count(12));
        due(2, x.play());
        due(2, x.count(3));
        due(1, x.count(4));
        due(4, x.count(2));
        x.undo();
        due(6, x.count(12));
        due(2, x.count(2));
        due(2, x.play());
        due(7, x.type('x'));
        due(NOT_POSSIBLE, x.play());
        due(7, x.count(12));
        due(8, x.type(';'));
        due(3, x.play());
        due(0, x.serviceAt(0));
        due(8, x.count(12));
        // Each event is what its call is: waits, accounts, turns and acknowledges go on from the board.
        LampRanks y = new LampRanks();
        y.node(0, 1);
        y.line(1, 4, 0);
        y.line(1, 4, 1);
        y.edge(0);
        y.tick(5);
        due(7, withText(y, "t2;x;l1,1;d;x;t1;d;").play());
        due(7, y.lineOf(0, 10));
        inputs(y, 1, 0, 1);
        due(1, y.count(6));
        due(1, y.count(7));
        due(2, y.lineOf(0, 11));
        due(3, y.lineOf(1, 11));
        y.edge(0);
        due(2, withText(y, "t2;x;").play());
        due(7, y.lineOf(0, 10));
        due(10, y.count(2));
    }

    private static void oneChange() {
        LampRanks x = ofRanks(1);
        due(0, x.play());
        due(2, x.count(11));
        due(1, x.undo());
        withText(x, "e0;t1;x;d;t9;m0,1;");
        due(6, x.play());
        due(2, x.count(11));
        due(10, x.count(2));
        due(1, x.undo());
        due(0, x.count(2));
        due(0, x.lines(4));
        due(0, x.count(3));
        due(1, x.count(1));
        // Texts without events fill the history as well.
        x.clearText();
        for (int times = 2; times <= 6; times++) {
            due(0, x.play());
            due(Math.min(times, 4), x.count(11));
        }
        due(3, x.undo());
        due(1, x.count(1));
    }

    private static void howManyEvents() {
        LampRanks x = litOfRanks(1);
        due(0, withText(x, "").play());
        due(1, withText(x, "t1;").play());
        due(20, withText(x, "t1;".repeat(20)).play());
        due(21, x.count(2));
        // The most events that fit: of two characters each.
        x.late(0);
        due(2, withText(x, "x;d;").play());
        x.line(0, 2, 1);
        x.level(1, 1);
        due(30, withText(x, "x;d;".repeat(15)).play());
        due(15, x.lineOf(1, 9));
        due(16, x.count(10));
        due(NOT_FOUND, x.fault(0));
    }

    private static void playOfAFault() {
        LampRanks x = litOfRanks(1);
        for (String text : new String[] {"e0;x;d;x;", "e0", ";", "t0;", "e1;", "m0,0;", "t1;d;", "t1;t1; "}) {
            due(NOT_POSSIBLE, withText(x, text).play());
            due(text.length(), x.count(12));
        }
        due(0, x.count(2));
        due(1, x.count(3));
        due(2, x.count(11));
        due(1, x.lines(1));
        // The same text is possible later.
        withText(x, "d;");
        due(NOT_POSSIBLE, x.play());
        x.take();
        due(1, x.play());
        due(NOT_POSSIBLE, x.play());
    }
}
