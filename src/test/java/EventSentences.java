/** Boundaries in the sentences of promises 11 to 15: edges, levels, takings, ends of service and ticks. */
final class EventSentences extends Sentences {
    static void all() {
        test("Promise 11", "line: number of the line", EventSentences::lineOfEdge);
        test("Promise 11", "Returns 1 if the line becomes lit by it, 0 if it is lost", EventSentences::litOrLost);
        test("Promise 11", "INVALID_ARGUMENT; NOT_POSSIBLE if the line is one of a level.",
                EventSentences::edgeOfALevel);
        test("Promise 12", "Returns how many lines of both kinds are lit then", EventSentences::howManyLit);
        test("Promise 12", "line: number of the line", EventSentences::lineOfLevel);
        test("Promise 12", "level: 0 or 1", EventSentences::levelRange);
        test("Promise 12", "INVALID_ARGUMENT if an argument is out of range", EventSentences::levelOutOfRange);
        test("Promise 12", "NOT_POSSIBLE if the line is one of edges, or its level is so already.",
                EventSentences::levelSoAlready);
        test("Promise 13", "Returns its number", EventSentences::numbersTaken);
        test("Promise 13", "LIMIT_REACHED if 4 lines are in service", EventSentences::fourAreInService);
        test("Promise 13", "NOT_FOUND if no line is ready.", EventSentences::noneToTake);
        test("Promise 14", "Returns its number", EventSentences::numbersDone);
        test("Promise 14", "NOT_POSSIBLE if none is in service.", EventSentences::noneToBeDone);
        test("Promise 15", "ticks: 1 to 99", EventSentences::tickRange);
        test("Promise 15", "INVALID_ARGUMENT if ticks is out of range", EventSentences::tickOutOfRange);
        test("Promise 15", "Returns how many acknowledges come", EventSentences::howManyCome);
        test("Promise 15", "LIMIT_REACHED if the time would be above 50000.", EventSentences::lastTime);
    }

    private static void lineOfEdge() {
        due(INVALID, new LampRanks().edge(0));
        LampRanks x = sixteenLines(1);
        each(INVALID, outside(0, 15), x::edge);
        due(0, x.count(3));
        due(1, x.edge(0));
        due(1, x.edge(15));
        due(32769, x.lines(0));
    }

    private static void litOrLost() {
        LampRanks x = sixteenLines(1);
        for (int line : new int[] {0, 15}) {
            due(1, x.edge(line));
            due(0, x.edge(line));
            due(0, x.edge(line));
            due(2, x.lineOf(line, 8));
        }
        x.take();
        due(1, x.edge(0));
        due(0, x.edge(0));
        x.undo();
        x.undo();
        due(1, x.edge(0));
    }

    private static void edgeOfALevel() {
        LampRanks x = ofRanks(1);
        x.line(0, 1, 1);
        each(INVALID, outside(0, 1), x::edge);
        due(NOT_POSSIBLE, x.edge(1));
        x.level(1, 1);
        due(NOT_POSSIBLE, x.edge(1));
        x.take();
        due(NOT_POSSIBLE, x.edge(1));
        due(0, x.count(3));
        due(1, x.edge(0));
    }

    private static void howManyLit() {
        LampRanks x = new LampRanks();
        for (int line = 0; line <= 15; line++) {
            x.line(0, 1, line % 2);
        }
        due(1, x.level(1, 1));
        due(0, x.level(1, 0));
        for (int line = 0; line <= 15; line += 2) {
            x.edge(line);
            due(line + 2, x.level(line + 1, 1));
        }
        due(15, x.level(15, 0));
        // Masked ones and one in service are lit, too.
        x.mask(1, 1);
        x.mask(0, 1);
        x.mask(2, 1);
        due(3, x.take());
        due(16, x.level(15, 1));
        x.maskNode(0, 1);
        due(15, x.level(3, 0));
    }

    private static void lineOfLevel() {
        due(INVALID, new LampRanks().level(0, 1));
        LampRanks x = new LampRanks();
        for (int line = 0; line <= 15; line++) {
            x.line(0, 1, 1);
        }
        each(INVALID, outside(0, 15), line -> x.level(line, 1));
        due(0, x.lines(0));
        due(1, x.level(0, 1));
        due(2, x.level(15, 1));
        due(32769, x.lines(0));
    }

    private static void levelRange() {
        LampRanks x = new LampRanks();
        x.line(0, 1, 1);
        each(INVALID, outside(0, 1), level -> x.level(0, level));
        due(0, x.lines(0));
        due(1, x.level(0, 1));
        each(INVALID, outside(0, 1), level -> x.level(0, level));
        due(1, x.lines(0));
        due(0, x.level(0, 0));
    }

    private static void levelOutOfRange() {
        LampRanks x = ofRanks(1);
        x.line(0, 1, 1);
        // Line 0 is one of edges, and the level of line 1 is 0 already.
        each(INVALID, outside(0, 1), level -> x.level(0, level));
        each(INVALID, outside(0, 1), line -> x.level(line, 0));
        each(INVALID, outside(0, 1), line -> x.level(line, 2));
        due(NOT_POSSIBLE, x.level(0, 1));
        due(NOT_POSSIBLE, x.level(1, 0));
        due(1, x.level(1, 1));
    }

    private static void levelSoAlready() {
        LampRanks x = ofRanks(1);
        x.line(0, 1, 1);
        due(NOT_POSSIBLE, x.level(0, 0));
        due(NOT_POSSIBLE, x.level(0, 1));
        x.edge(0);
        due(NOT_POSSIBLE, x.level(0, 0));
        due(NOT_POSSIBLE, x.level(0, 1));
        due(NOT_POSSIBLE, x.level(1, 0));
        due(2, x.level(1, 1));
        due(NOT_POSSIBLE, x.level(1, 1));
        x.mask(0, 1);
        due(1, x.take());
        due(NOT_POSSIBLE, x.level(1, 1));
        x.done();
        due(NOT_POSSIBLE, x.level(1, 1));
        due(1, x.level(1, 0));
        due(NOT_POSSIBLE, x.level(1, 0));
    }

    private static void numbersTaken() {
        LampRanks x = sixteenLines(1);
        x.late(0);
        for (int line = 15; line >= 0; line--) {
            x.edge(line);
            due(line, x.take());
            x.done();
        }
        edges(x, 15, 0, 7);
        due(0, x.take());
        x.done();
        due(7, x.take());
        x.done();
        due(15, x.take());
    }

    private static void fourAreInService() {
        LampRanks x = ofRanks(0, 1, 2, 3, 4);
        for (int line = 0; line <= 3; line++) {
            x.edge(line);
            due(line, x.take());
        }
        due(LIMIT, x.take());
        x.edge(4);
        due(LIMIT, x.take());
        x.mask(4, 1);
        due(LIMIT, x.take());
        due(4, x.count(6));
        x.mask(4, 0);
        x.done();
        due(4, x.take());
        due(LIMIT, x.take());
    }

    private static void noneToTake() {
        LampRanks x = ofRanks(3);
        due(NOT_FOUND, x.take());
        x.edge(0);
        x.threshold(4);
        due(NOT_FOUND, x.take());
        x.threshold(3);
        x.mask(0, 1);
        due(NOT_FOUND, x.take());
        x.mask(0, 0);
        x.maskNode(0, 1);
        due(NOT_FOUND, x.take());
        x.maskNode(0, 0);
        due(0, x.take());
        due(NOT_FOUND, x.take());
        x.edge(0);
        due(NOT_FOUND, x.take());
        x.done();
        due(NOT_FOUND, x.take());
        x.tick(3);
        due(0, x.take());
        due(2, x.count(6));
    }

    private static void numbersDone() {
        LampRanks x = sixteenLines(1);
        edges(x, 0, 15);
        x.take();
        due(0, x.done());
        x.take();
        due(15, x.done());
        LampRanks y = ofRanks(4, 2);
        edges(y, 1);
        y.take();
        edges(y, 0, 1);
        y.take();
        due(0, y.done());
        due(1, y.done());
    }

    private static void noneToBeDone() {
        LampRanks x = ofRanks(1);
        due(NOT_POSSIBLE, x.done());
        x.edge(0);
        due(NOT_POSSIBLE, x.done());
        x.take();
        due(0, x.done());
        due(NOT_POSSIBLE, x.done());
        x.tick(3);
        due(NOT_POSSIBLE, x.done());
        due(1, x.count(10));
        LampRanks y = fourInService();
        for (int line = 3; line >= 0; line--) {
            due(line, y.done());
        }
        due(NOT_POSSIBLE, y.done());
        due(15, y.lines(3));
    }

    private static void tickRange() {
        LampRanks x = new LampRanks();
        due(0, x.tick(1));
        due(1, x.count(2));
        due(0, x.tick(99));
        due(100, x.count(2));
        due(0, x.tick(2));
        due(0, x.tick(98));
        due(200, x.count(2));
    }

    private static void tickOutOfRange() {
        LampRanks x = new LampRanks();
        each(INVALID, outside(1, 99), x::tick);
        due(INVALID, x.tick(0));
        due(0, x.count(2));
        due(0, x.count(11));
        LampRanks last = atTime(50000);
        each(INVALID, outside(1, 99), last::tick);
        due(50000, last.count(2));
    }

    private static void howManyCome() {
        LampRanks x = sixteenLines(1);
        x.late(50);
        for (int line = 0; line <= 15; line++) {
            x.edge(line);
            due(line, x.take());
            x.done();
        }
        due(0, x.tick(49));
        due(65535, x.lines(3));
        due(16, x.tick(1));
        due(0, x.lines(3));
        due(16, x.count(10));
        due(0, x.tick(50));
        // One that comes at once isn't of the next tick.
        x.late(0);
        x.edge(0);
        x.take();
        x.done();
        due(0, x.tick(1));
        due(17, x.count(10));
        LampRanks y = litOfRanks(1, 2);
        y.take();
        y.done();
        y.tick(1);
        y.take();
        y.done();
        due(1, y.tick(2));
        due(1, y.tick(99));
    }

    private static void lastTime() {
        LampRanks x = atTime(49901);
        due(0, x.tick(99));
        due(50000, x.count(2));
        due(LIMIT, x.tick(1));
        due(LIMIT, x.tick(99));
        x.undo();
        due(49901, x.count(2));
        due(0, x.tick(1));
        due(LIMIT, x.tick(99));
        due(49902, x.count(2));
        due(0, x.tick(98));
        due(50000, x.count(2));
        // Acknowledges that are due later don't come any more; other calls go on.
        LampRanks y = atTime(49999);
        y.line(0, 1, 0);
        y.edge(0);
        y.take();
        y.late(2);
        y.done();
        due(0, y.tick(1));
        due(1, y.lineOf(0, 11));
        due(LIMIT, y.tick(1));
        due(2, y.lineOf(0, 4));
        due(1, y.edge(0));
        due(NOT_FOUND, y.take());
    }
}
