/** The sentences of 'What it is', and of 'Terms' but for the texts, that name a boundary. */
final class TermSentences extends Sentences {
    static void all() {
        test("What it is", "An object is used for at most 512 calls after it has been made", TermSentences::calls);
        test("Terms", "Time is told in ticks, 0 at first.", TermSentences::timeAtFirst);
        test("Terms", "Sets are told as bits: bit k is for number k.", TermSentences::bits);
        nodesAndLines();
        edgesAndLevels();
        taking();
        done();
        test("A tick", "Time becomes greater by 1; then all acknowledges that are due come.", TermSentences::aTick);
        test("Waits", "A line of edges waits from the time of the edge by which it became lit",
                TermSentences::waitBegins);
        test("Waits", "until the time when it is taken.", TermSentences::waitEnds);
    }

    private static void nodesAndLines() {
        String section = "Nodes and lines";
        test(section, "There are at most 6 nodes, numbered from 0.", TermSentences::mostNodes);
        test(section, "Node 0 is there at first and hangs on none", TermSentences::nodeAtFirst);
        test(section, "each other one hangs on a lower one.", TermSentences::onLowerNodes);
        test(section, "A node is fixed or turning; node 0 is fixed.", TermSentences::fixedNode);
        test(section, "There are at most 16 lines, numbered from 0", TermSentences::mostLines);
        test(section, "with a rank (0 to 7)", TermSentences::ranks);
        test(section, "of edges (0) or of a level (1).", TermSentences::kinds);
        test(section, "What hangs on a node, lines and nodes, are its inputs", TermSentences::whatHangsOn);
        test(section, "they have an order, at first that in which they were added.", TermSentences::orderAtFirst);
        test(section, "The way of a line is its node, the node on which this hangs, and so on, up to node 0.",
                TermSentences::ways);
    }

    private static void edgesAndLevels() {
        String section = "Edges and levels";
        test(section, "By an edge a line of edges becomes lit, if it is not lit", TermSentences::edgeLights);
        test(section, "if it is lit already, the edge is lost.", TermSentences::edgeIsLost);
        test(section, "A line of a level is lit as long as its level is 1 (it is 0 at first).",
                TermSentences::levelLights);
    }

    private static void taking() {
        String section = "Taking";
        test(section, "A line is open if it is not in service and waits for no acknowledge.", TermSentences::open);
        test(section, "It is ready if it is lit and open", TermSentences::litAndOpen);
        test(section, "neither it nor a node on its way is masked", TermSentences::notMasked);
        test(section, "its rank is at least the threshold (0 to 8; 0 at first)", TermSentences::threshold);
        test(section, "above the rank of the line that was taken last of those that are in service (if there is one).",
                TermSentences::aboveTheLast);
        test(section, "The next line is the ready one with the highest rank", TermSentences::highestRank);
        test(section, "of several the first one in the order of the tree", TermSentences::firstOfSeveral);
        test(section, "which goes through the inputs of node 0 in their order", TermSentences::inputsInOrder);
        test(section, "at an input that is a node it goes through its inputs in the same way, ahead of the next input.",
                TermSentences::nodesAhead);
        test(section, "To take the next line means: it is in service", TermSentences::isInService);
        test(section, "a line of edges is not lit any more", TermSentences::notLitAnyMore);
        test(section, "in each node on its way that is turning, the input by which the line is reached goes behind"
                + " all others.", TermSentences::turns);
        test(section, "At most 4 lines are in service.", TermSentences::mostInService);
    }

    private static void done() {
        String section = "Taking";
        test(section, "Done is always the line that was taken last of those in service", TermSentences::lastIsDone);
        test(section, "it is in service no more, and waits for its acknowledge", TermSentences::waitsForAcknowledge);
        test(section, "which comes so many ticks later as the setting told when it was done",
                TermSentences::asLateAsSet);
        test(section, "(0 to 50; 3 at first; with 0 it comes at once, and is counted).", TermSentences::lateFrom0To50);
    }

    private static void calls() {
        LampRanks x = ofRanks(1);
        for (int edge = 1; edge <= 507; edge++) {
            due(edge == 1 ? 1 : 0, x.edge(0));
        }
        due(507, x.lineOf(0, 7));
        due(506, x.lineOf(0, 8));
        due(0, x.take());
        due(4, x.count(11));
    }

    private static void timeAtFirst() {
        LampRanks x = new LampRanks();
        due(0, x.count(2));
        x.tick(1);
        due(1, x.count(2));
        x.tick(99);
        due(100, x.count(2));
    }

    private static void bits() {
        LampRanks x = sixteenLines(0);
        x.edge(15);
        due(32768, x.lines(0));
        due(32768, x.lines(1));
        due(32768, x.nodeOf(0, 5));
        x.edge(0);
        due(32769, x.lines(0));
        x.mask(15, 1);
        due(32768, x.lines(4));
        due(32768, x.lines(5));
        due(1, x.lines(1));
        x.mask(15, 0);
        x.take();
        due(1, x.lines(2));
        x.done();
        due(1, x.lines(3));
        x.take();
        due(32768, x.lines(2));
        x.done();
        due(32769, x.lines(3));
        x.maskNode(0, 1);
        due(65535, x.lines(5));
        edges(x, 0, 1, 2, 3, 4, 5, 6, 7, 8, 9, 10, 11, 12, 13, 14, 15);
        due(65535, x.lines(0));
        due(65535, x.nodeOf(0, 5));
    }

    private static void mostNodes() {
        LampRanks x = new LampRanks();
        for (int number = 1; number <= 5; number++) {
            due(number, x.node(0, 1));
        }
        due(6, x.count(0));
        due(LIMIT, x.node(0, 1));
        due(6, x.count(0));
        due(5, x.nodeOf(0, 2));
        due(0, x.nodeOf(5, 0));
        due(INVALID, x.nodeOf(6, 0));
    }

    private static void nodeAtFirst() {
        LampRanks x = new LampRanks();
        due(1, x.count(0));
        due(NOT_FOUND, x.nodeOf(0, 0));
        due(0, x.nodeOf(0, 2));
        due(INVALID, x.nodeOf(1, 0));
        x.node(0, 1);
        due(NOT_FOUND, x.nodeOf(0, 0));
    }

    private static void onLowerNodes() {
        LampRanks x = new LampRanks();
        for (int number = 1; number <= 5; number++) {
            due(INVALID, x.node(number, 0));
            due(number, x.node(number - 1, 0));
            due(number - 1, x.nodeOf(number, 0));
            due(1, x.nodeOf(number - 1, 2));
        }
    }

    private static void fixedNode() {
        LampRanks x = new LampRanks();
        due(0, x.nodeOf(0, 1));
        x.node(0, 0);
        x.node(0, 1);
        due(0, x.nodeOf(1, 1));
        due(1, x.nodeOf(2, 1));
        for (int node = 0; node <= 2; node++) {
            x.line(node, 4, 0);
            x.line(node, 4, 0);
        }
        x.late(0);
        for (int line : new int[] {0, 2, 4}) {
            x.edge(line);
            due(line, x.take());
            x.done();
        }
        inputs(x, 0, 101, 102, 0, 1);
        inputs(x, 1, 2, 3);
        inputs(x, 2, 5, 4);
    }

    private static void mostLines() {
        LampRanks x = new LampRanks();
        x.node(0, 0);
        for (int number = 0; number <= 15; number++) {
            due(number, x.line(number % 2, 7, 0));
        }
        due(LIMIT, x.line(0, 7, 0));
        due(LIMIT, x.line(1, 0, 1));
        due(16, x.count(1));
        due(8, x.nodeOf(1, 2));
        due(1, x.lineOf(15, 0));
        due(INVALID, x.lineOf(16, 0));
    }

    private static void ranks() {
        LampRanks x = new LampRanks();
        for (int rank = 0; rank <= 7; rank++) {
            due(rank, x.line(0, rank, 0));
            due(rank, x.lineOf(rank, 1));
        }
        each(INVALID, outside(0, 7), rank -> x.line(0, rank, 0));
        due(8, x.count(1));
        x.edge(0);
        due(0, x.next());
        x.edge(7);
        due(7, x.next());
    }

    private static void kinds() {
        LampRanks x = new LampRanks();
        x.line(0, 2, 0);
        x.line(0, 2, 1);
        each(INVALID, outside(0, 1), level -> x.line(0, 2, level));
        due(0, x.lineOf(0, 2));
        due(1, x.lineOf(1, 2));
        due(NOT_POSSIBLE, x.level(0, 1));
        due(NOT_POSSIBLE, x.edge(1));
        due(1, x.edge(0));
        due(2, x.level(1, 1));
    }

    private static void whatHangsOn() {
        LampRanks x = new LampRanks();
        inputs(x, 0);
        x.line(0, 1, 1);
        inputs(x, 0, 0);
        x.node(0, 0);
        inputs(x, 0, 0, 101);
        inputs(x, 1);
        x.node(1, 0);
        x.line(1, 1, 0);
        inputs(x, 0, 0, 101);
        inputs(x, 1, 102, 1);
        inputs(x, 2);
        x.undo();
        inputs(x, 1, 102);
        x.undo();
        inputs(x, 1);
    }

    private static void orderAtFirst() {
        LampRanks x = new LampRanks();
        inputs(x, 0);
        x.node(0, 1);
        inputs(x, 1);
        x.line(1, 1, 0);
        x.node(1, 1);
        x.line(1, 7, 0);
        x.line(0, 7, 0);
        x.node(1, 0);
        x.line(1, 3, 1);
        x.edge(1);
        inputs(x, 1, 0, 102, 1, 103, 3);
        inputs(x, 0, 101, 2);
        inputs(x, 2);
    }

    private static void ways() {
        LampRanks x = chain(0);
        x.line(0, 1, 0);
        x.line(5, 2, 0);
        x.line(3, 3, 0);
        int[] linesOf = {7, 6, 6, 6, 2, 2};
        for (int node = 0; node <= 5; node++) {
            due(Integer.bitCount(linesOf[node]), x.nodeOf(node, 4));
            due(Integer.bitCount(linesOf[node]), x.maskNode(node, 1));
            due(linesOf[node], x.lines(5));
            x.maskNode(node, 0);
        }
        // A node beside the way isn't on it.
        LampRanks y = new LampRanks();
        y.node(0, 0);
        y.node(0, 0);
        y.line(2, 1, 0);
        due(0, y.maskNode(1, 1));
        due(0, y.lines(5));
    }

    private static void edgeLights() {
        LampRanks x = ofRanks(4);
        due(0, x.lineOf(0, 3));
        due(1, x.edge(0));
        due(1, x.lineOf(0, 3));
        x.take();
        due(0, x.lineOf(0, 3));
        // In service, waiting, and open again: each edge lights it.
        due(1, x.edge(0));
        due(1, x.lineOf(0, 3));
        x.done();
        x.tick(3);
        x.take();
        x.done();
        due(0, x.lineOf(0, 3));
        due(1, x.edge(0));
        due(1, x.lineOf(0, 3));
        x.tick(3);
        x.take();
        x.done();
        x.tick(3);
        due(0, x.lineOf(0, 3));
        due(1, x.edge(0));
        due(0, x.count(4));
        LampRanks y = ofRanks(4);
        y.mask(0, 1);
        y.threshold(8);
        due(1, y.edge(0));
        due(1, y.lines(0));
    }

    private static void edgeIsLost() {
        LampRanks x = ofRanks(4);
        x.edge(0);
        due(0, x.edge(0));
        due(1, x.lineOf(0, 3));
        due(1, x.lineOf(0, 8));
        x.take();
        x.edge(0);
        due(0, x.edge(0));
        due(2, x.lineOf(0, 8));
        x.done();
        due(0, x.edge(0));
        due(3, x.lineOf(0, 8));
        due(5, x.lineOf(0, 7));
        due(3, x.count(4));
        due(5, x.count(3));
        due(1, x.count(5));
    }

    private static void levelLights() {
        LampRanks x = new LampRanks();
        x.line(0, 4, 1);
        due(0, x.lineOf(0, 3));
        due(NOT_POSSIBLE, x.level(0, 0));
        due(1, x.level(0, 1));
        due(1, x.lineOf(0, 3));
        x.take();
        due(1, x.lineOf(0, 3));
        x.done();
        due(1, x.lineOf(0, 3));
        x.tick(3);
        due(1, x.lineOf(0, 3));
        due(1, x.lines(1));
        due(0, x.level(0, 0));
        due(0, x.lineOf(0, 3));
        due(0, x.lines(1));
        // Its level goes down and up in service and while it waits, too.
        x.level(0, 1);
        x.take();
        due(0, x.level(0, 0));
        due(0, x.lines(0));
        x.done();
        due(1, x.level(0, 1));
        due(1, x.lines(0));
    }

    private static void open() {
        LampRanks x = ofRanks(4);
        due(0, x.lineOf(0, 4));
        x.edge(0);
        due(0, x.lineOf(0, 4));
        x.take();
        due(1, x.lineOf(0, 4));
        x.done();
        due(2, x.lineOf(0, 4));
        x.tick(2);
        due(2, x.lineOf(0, 4));
        x.tick(1);
        due(0, x.lineOf(0, 4));
    }

    private static void litAndOpen() {
        LampRanks x = ofRanks(4);
        due(0, x.lineOf(0, 6));
        x.edge(0);
        due(1, x.lineOf(0, 6));
        x.take();
        x.edge(0);
        due(0, x.lineOf(0, 6));
        x.done();
        due(0, x.lineOf(0, 6));
        due(0, x.lines(1));
        due(NOT_FOUND, x.take());
        x.tick(2);
        due(0, x.lineOf(0, 6));
        x.tick(1);
        due(1, x.lineOf(0, 6));
        due(0, x.take());
    }

    private static void notMasked() {
        LampRanks x = new LampRanks();
        x.node(0, 0);
        x.node(1, 0);
        x.node(0, 0);
        x.line(2, 4, 0);
        x.edge(0);
        x.mask(0, 1);
        due(0, x.lines(1));
        x.maskNode(1, 1);
        x.mask(0, 0);
        due(0, x.lines(1));
        x.maskNode(2, 1);
        x.maskNode(1, 0);
        due(0, x.lines(1));
        x.maskNode(0, 1);
        x.maskNode(2, 0);
        due(0, x.lines(1));
        due(NOT_FOUND, x.take());
        x.maskNode(0, 0);
        due(1, x.lines(1));
        x.maskNode(3, 1);
        due(1, x.lines(1));
        due(0, x.take());
    }

    private static void threshold() {
        LampRanks x = litOfRanks(0, 1, 2, 3, 4, 5, 6, 7);
        due(0, x.count(8));
        due(255, x.lines(1));
        int[] readyWith = {255, 254, 252, 248, 240, 224, 192, 128, 0};
        for (int rank = 0; rank <= 8; rank++) {
            x.threshold(rank);
            due(readyWith[rank], x.lines(1));
            due(rank <= 7 ? 7 : NOT_FOUND, x.next());
        }
        due(NOT_FOUND, x.take());
        each(INVALID, outside(0, 8), x::threshold);
        due(8, x.count(8));
    }

    private static void aboveTheLast() {
        LampRanks x = litOfRanks(0, 3, 3, 4, 2);
        x.mask(3, 1);
        due(1, x.take());
        // Line 2 is as high as line 1, line 4 lower, line 3 higher by one.
        due(NOT_FOUND, x.next());
        due(0, x.lines(1));
        x.mask(3, 0);
        due(8, x.lines(1));
        due(3, x.take());
        due(0, x.lines(1));
        // Line 1, which was taken ahead of line 3, is the last one again.
        due(3, x.done());
        x.tick(3);
        x.edge(3);
        due(8, x.lines(1));
        due(1, x.done());
        // None is in service, so rank 0 is enough.
        due(1 + 4 + 8 + 16, x.lines(1));
        LampRanks y = litOfRanks(7, 7, 0);
        due(0, y.take());
        due(NOT_FOUND, y.take());
        y.done();
        due(1, y.take());
        y.done();
        due(2, y.take());
        LampRanks z = litOfRanks(0, 0);
        due(0, z.take());
        due(NOT_FOUND, z.take());
        z.done();
        due(1, z.take());
    }

    private static void highestRank() {
        LampRanks x = litOfRanks(0, 6, 7, 1);
        due(2, x.next());
        x.mask(2, 1);
        due(1, x.next());
        x.mask(1, 1);
        due(3, x.next());
        x.mask(3, 1);
        due(0, x.next());
        x.mask(0, 1);
        due(NOT_FOUND, x.next());
        x.mask(2, 0);
        due(2, x.take());
        // The rank is above the place in the tree.
        LampRanks y = new LampRanks();
        y.node(0, 0);
        y.line(1, 3, 0);
        y.line(0, 4, 0);
        edges(y, 0, 1);
        due(1, y.next());
    }

    private static void firstOfSeveral() {
        LampRanks x = ofRanks(2, 5, 5, 5, 2);
        edges(x, 4, 3, 2, 1, 0);
        due(1, x.next());
        x.mask(1, 1);
        due(2, x.next());
        x.mask(2, 1);
        due(3, x.next());
        x.mask(3, 1);
        due(0, x.next());
    }

    private static void inputsInOrder() {
        LampRanks x = new LampRanks();
        x.node(0, 0);
        x.line(0, 4, 0);
        x.node(0, 0);
        x.line(0, 4, 0);
        x.line(2, 4, 0);
        x.line(1, 4, 0);
        x.node(0, 0);
        x.line(3, 4, 0);
        edges(x, 0, 1, 2, 3, 4);
        // Node 0 has 101, 0, 102, 1, 103.
        order(x, 3, 0, 2, 1, 4);
    }

    private static void nodesAhead() {
        // Six nodes deep, each one's node ahead of its line.
        LampRanks x = chain(0);
        for (int node = 0; node <= 5; node++) {
            x.line(node, 4, 0);
            x.edge(node);
        }
        order(x, 5, 4, 3, 2, 1, 0);
        // Nodes without inputs, alone, one behind the other, and one in the other.
        LampRanks y = new LampRanks();
        y.node(0, 0);
        y.node(0, 0);
        y.node(2, 0);
        y.line(2, 4, 0);
        y.node(2, 0);
        y.line(0, 4, 0);
        y.node(0, 1);
        y.line(0, 4, 0);
        edges(y, 0, 1, 2);
        order(y, 0, 1, 2);
        due(0, y.next());
        LampRanks z = chain(1);
        due(NOT_FOUND, z.next());
        z.line(0, 0, 0);
        z.edge(0);
        due(0, z.next());
    }

    private static void isInService() {
        LampRanks x = litOfRanks(0, 7);
        x.mask(1, 1);
        due(0, x.take());
        due(1, x.lineOf(0, 4));
        due(0, x.lineOf(1, 4));
        due(0, x.serviceAt(0));
        x.mask(1, 0);
        due(1, x.take());
        due(1, x.lineOf(0, 4));
        due(1, x.lineOf(1, 4));
        due(1, x.serviceAt(0));
        due(0, x.serviceAt(1));
        due(1, x.lineOf(0, 9));
        due(1, x.lineOf(1, 9));
        due(NOT_FOUND, x.take());
        due(3, x.lines(2));
    }

    private static void notLitAnyMore() {
        LampRanks x = ofRanks(4);
        x.line(0, 5, 1);
        x.edge(0);
        x.level(1, 1);
        due(1, x.take());
        due(3, x.lines(0));
        due(1, x.lineOf(1, 3));
        x.done();
        due(0, x.take());
        due(2, x.lines(0));
        due(0, x.count(5));
    }

    private static void turns() {
        // Alone, at the end already, and ahead of one other.
        LampRanks x = new LampRanks();
        x.node(0, 1);
        x.late(0);
        x.line(1, 4, 0);
        takeAndDone(x, 0);
        inputs(x, 1, 0);
        x.line(1, 4, 0);
        takeAndDone(x, 1);
        inputs(x, 1, 0, 1);
        takeAndDone(x, 0);
        inputs(x, 1, 1, 0);
        // In the middle: the others keep their order.
        x.line(1, 4, 0);
        x.line(1, 4, 0);
        takeAndDone(x, 0);
        inputs(x, 1, 1, 2, 3, 0);
        takeAndDone(x, 2);
        inputs(x, 1, 1, 3, 0, 2);
        // A line that is added then is behind all others.
        x.line(1, 4, 0);
        inputs(x, 1, 1, 3, 0, 2, 4);
        allTurn();
        turnedOrder();
    }

    private static void takeAndDone(LampRanks x, int line) {
        x.edge(line);
        due(line, x.take());
        x.done();
    }

    /** In each of five turning nodes one above the other the input turns, in node 0 not. */
    private static void allTurn() {
        LampRanks x = chain(1);
        for (int node = 0; node <= 5; node++) {
            x.line(node, 4, 0);
        }
        takeAndDone(x, 5);
        inputs(x, 0, 101, 0);
        for (int node = 1; node <= 4; node++) {
            inputs(x, node, node, 101 + node);
        }
        inputs(x, 5, 5);
        x.tick(3);
        edges(x, 0, 1, 2, 3, 4, 5);
        order(x, 1, 2, 3, 4, 5, 0);
        // A fixed node between turning ones keeps its order, those above it turn.
        LampRanks y = new LampRanks();
        y.node(0, 1);
        y.node(1, 0);
        y.node(2, 1);
        for (int node = 1; node <= 3; node++) {
            y.line(node, 4, 0);
            y.line(node, 4, 0);
        }
        takeAndDone(y, 4);
        inputs(y, 1, 0, 1, 102);
        inputs(y, 2, 103, 2, 3);
        inputs(y, 3, 5, 4);
    }

    /** Of two lines always both lit, each is taken in its turn; a line of a level turns as well. */
    private static void turnedOrder() {
        LampRanks x = new LampRanks();
        x.node(0, 1);
        x.late(0);
        x.line(1, 4, 1);
        x.line(1, 4, 1);
        x.line(1, 5, 1);
        x.level(0, 1);
        x.level(1, 1);
        for (int round = 0; round < 6; round++) {
            due(round % 2, x.take());
            due(round % 2, x.done());
        }
        // What isn't taken turns nothing: a refused taking, and next.
        x.threshold(8);
        due(NOT_FOUND, x.take());
        due(NOT_FOUND, x.next());
        inputs(x, 1, 2, 0, 1);
    }

    private static void mostInService() {
        LampRanks x = fourInService();
        due(15, x.lines(2));
        due(LIMIT, x.take());
        x.edge(4);
        due(4, x.next());
        due(LIMIT, x.take());
        due(15, x.lines(2));
        due(16, x.lines(0));
        x.done();
        due(7, x.lines(2));
        due(4, x.take());
        due(23, x.lines(2));
        due(LIMIT, x.take());
    }

    private static void lastIsDone() {
        LampRanks x = fourInService();
        for (int line = 3; line >= 0; line--) {
            due(line, x.done());
        }
        due(NOT_POSSIBLE, x.done());
        LampRanks y = litOfRanks(6, 2, 7);
        y.mask(2, 1);
        due(0, y.take());
        y.mask(2, 0);
        due(2, y.take());
        due(2, y.done());
        due(0, y.done());
        due(1, y.take());
        due(1, y.done());
    }

    private static void waitsForAcknowledge() {
        LampRanks x = litOfRanks(1, 2);
        x.take();
        x.done();
        due(0, x.lines(2));
        due(2, x.lines(3));
        due(NOT_FOUND, x.serviceAt(0));
        due(1, x.waitingAt(0));
        x.take();
        due(1, x.lines(2));
        due(2, x.lines(3));
        x.done();
        due(3, x.lines(3));
        due(2, x.tick(3));
        due(0, x.lines(3));
    }

    private static void asLateAsSet() {
        LampRanks x = litOfRanks(1, 2);
        x.late(5);
        x.take();
        // Taken with 5, done with 2.
        x.late(2);
        x.done();
        due(2, x.lineOf(1, 11));
        x.late(50);
        due(2, x.lineOf(1, 11));
        x.take();
        x.done();
        due(50, x.lineOf(0, 11));
        x.late(0);
        due(50, x.lineOf(0, 11));
        due(3, x.lines(3));
        due(0, x.tick(1));
        due(1, x.tick(1));
        due(0, x.tick(47));
        due(1, x.tick(1));
    }

    private static void lateFrom0To50() {
        for (int late : new int[] {3, 0, 1, 2, 49, 50}) {
            LampRanks x = litOfRanks(4);
            if (late != 3) {
                due(3, x.late(late));
            }
            x.take();
            x.done();
            due(late == 0 ? 0 : 2, x.lineOf(0, 4));
            due(late == 0 ? 1 : 0, x.count(10));
            due(late == 0 ? NOT_FOUND : late, x.lineOf(0, 11));
            due(late == 0 ? NOT_FOUND : 0, x.waitingAt(0));
            for (int ticks = 1; ticks < late; ticks++) {
                due(0, x.tick(1));
            }
            due(late == 0 ? 0 : 1, x.tick(1));
            due(1, x.count(10));
            due(0, x.lineOf(0, 4));
        }
        LampRanks x = new LampRanks();
        due(3, x.count(9));
        each(INVALID, outside(0, 50), x::late);
        due(3, x.count(9));
        acknowledgesThatOvertake();
    }

    /** With 0 only that line's acknowledge comes at once; one that is on its way still waits. */
    private static void acknowledgesThatOvertake() {
        LampRanks x = litOfRanks(1, 2);
        x.take();
        x.done();
        x.take();
        x.late(0);
        x.done();
        due(0, x.lineOf(0, 4));
        due(2, x.lineOf(1, 4));
        due(1, x.count(10));
        due(1, x.waitingAt(0));
        due(NOT_FOUND, x.waitingAt(1));
    }

    private static void aTick() {
        LampRanks x = fourInService();
        x.late(1);
        x.done();
        x.late(2);
        x.done();
        x.done();
        x.late(4);
        x.done();
        // Due are line 3 at 1, lines 2 and 1 at 2, line 0 at 4.
        due(1, x.tick(1));
        due(1, x.count(2));
        due(7, x.lines(3));
        due(2, x.tick(1));
        due(2, x.count(2));
        due(1, x.lines(3));
        due(0, x.tick(1));
        due(1, x.lineOf(0, 11));
        due(1, x.tick(1));
        due(0, x.lines(3));
        due(4, x.count(10));
        due(0, x.tick(99));
        // Several ticks at once let come all that fall due within them, the last tick included.
        LampRanks y = fourInService();
        for (int late = 4; late >= 1; late--) {
            y.late(late);
            y.done();
        }
        due(3, y.tick(3));
        due(1, y.tick(1));
        due(4, y.count(2));
    }

    private static void waitBegins() {
        LampRanks x = ofRanks(4);
        x.tick(10);
        x.edge(0);
        x.tick(1);
        // This edge is lost, so the wait is not begun anew.
        x.edge(0);
        x.tick(4);
        x.take();
        due(5, x.lineOf(0, 10));
        // The edge comes in service; the wait lasts on while the acknowledge is waited for.
        x.tick(1);
        x.edge(0);
        x.tick(6);
        x.done();
        x.tick(3);
        x.take();
        due(9, x.lineOf(0, 10));
        // Masked, or below the threshold, it waits as well.
        LampRanks y = ofRanks(4);
        y.mask(0, 1);
        y.edge(0);
        y.tick(7);
        y.mask(0, 0);
        y.threshold(5);
        y.tick(7);
        y.threshold(4);
        y.take();
        due(14, y.lineOf(0, 10));
    }

    private static void waitEnds() {
        LampRanks x = ofRanks(4);
        x.edge(0);
        x.take();
        due(0, x.lineOf(0, 10));
        x.tick(20);
        due(0, x.lineOf(0, 10));
        x.done();
        x.tick(3);
        x.edge(0);
        x.tick(1);
        due(0, x.lineOf(0, 10));
        x.take();
        due(1, x.lineOf(0, 10));
        x.tick(99);
        x.done();
        due(1, x.lineOf(0, 10));
        // From the first time to the last one.
        LampRanks y = ofRanks(4);
        y.edge(0);
        withText(y, "t99;".repeat(15));
        for (int k = 0; k < 33; k++) {
            y.play();
        }
        for (int k = 0; k < 10; k++) {
            y.tick(99);
        }
        y.tick(5);
        y.take();
        due(50000, y.lineOf(0, 10));
    }
}
