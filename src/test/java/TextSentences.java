/** Boundaries in the sentences of promises 23 to 26: texts. */
final class TextSentences extends Sentences {
    static void all() {
        test("Promise 23", "character: 32 to 126", TextSentences::characterRange);
        test("Promise 23", "Returns the length of the text", TextSentences::lengthOfText);
        test("Promise 23", "INVALID_ARGUMENT if character is out of range", TextSentences::characterOutOfRange);
        test("Promise 23", "LIMIT_REACHED if it has 60 characters.", TextSentences::sixtyCharacters);
        test("Promise 24", "Returns the length it had.", TextSentences::lengthItHad);
        test("Promise 25", "INVALID_ARGUMENT if what is out of range", TextSentences::faultOutOfRange);
        test("Promise 25", "what: 0: its position; 1: its reason", TextSentences::positionAndReason);
        test("Promise 25", "NOT_FOUND if the text has no fault (also if it is empty).", TextSentences::noFault);
        test("Promise 26", "Does all events of the text, which stays.", TextSentences::textStays);
        test("Promise 26", "They are one change, also if there are none.", TextSentences::oneChange);
        test("Promise 26", "Returns how many there are in it", TextSentences::howManyEvents);
        test("Promise 26", "NOT_POSSIBLE if it has a fault.", TextSentences::playOfAFault);
    }

    private static void characterRange() {
        LampRanks x = new LampRanks();
        for (int character = 32; character <= 126; character++) {
            due(1, x.type(character));
            due(1, x.count(12));
            x.clearText();
        }
        fault(x, " ", 0, 1);
        fault(x, "~", 0, 1);
    }

    private static void lengthOfText() {
        LampRanks x = new LampRanks();
        for (int length = 1; length <= 60; length++) {
            due(length, x.type(' '));
            due(length, x.count(12));
        }
        x.clearText();
        due(1, x.type(' '));
    }

    private static void characterOutOfRange() {
        LampRanks x = new LampRanks();
        each(INVALID, outside(32, 126), x::type);
        due(INVALID, x.type(0));
        due(INVALID, x.type(10));
        // A char would take these for a letter and for ";".
        due(INVALID, x.type('e' + 65536));
        due(INVALID, x.type(';' - 65536));
        due(0, x.count(12));
        withText(x, "t1;");
        each(INVALID, outside(32, 126), x::type);
        due(3, x.count(12));
        due(1, x.play());
    }

    private static void sixtyCharacters() {
        LampRanks x = new LampRanks();
        for (int length = 1; length <= 60; length++) {
            due(length, x.type(';'));
        }
        due(LIMIT, x.type(';'));
        due(LIMIT, x.type(32));
        due(LIMIT, x.type(126));
        each(INVALID, outside(32, 126), x::type);
        due(60, x.count(12));
        due(60, x.clearText());
        due(1, x.type(';'));
    }

    private static void lengthItHad() {
        LampRanks x = ofRanks(1);
        due(0, x.clearText());
        withText(x, "e");
        due(1, x.clearText());
        due(0, x.clearText());
        withText(x, "e0;".repeat(20));
        due(60, x.clearText());
        due(0, x.clearText());
        due(0, x.play());
        due(0, x.count(3));
    }

    private static void faultOutOfRange() {
        LampRanks x = new LampRanks();
        each(INVALID, outside(0, 1), x::fault);
        withText(x, "t1;");
        each(INVALID, outside(0, 1), x::fault);
        withText(x, "t1;t0;");
        each(INVALID, outside(0, 1), x::fault);
        due(3, x.fault(0));
        due(2, x.fault(1));
    }

    private static void positionAndReason() {
        LampRanks x = new LampRanks();
        fault(x, "e0;", 0, 2);
        fault(x, "t1;x;", 3, 3);
        fault(x, "t99;t9;?", 7, 1);
        fault(x, "t1;".repeat(19) + "t1", 57, 1);
        withText(x, "t1");
        due(0, x.fault(0));
        due(1, x.fault(1));
        x.type(';');
        due(NOT_FOUND, x.fault(0));
        due(NOT_FOUND, x.fault(1));
    }

    private static void noFault() {
        LampRanks x = new LampRanks();
        fault(x, "", NOT_FOUND, NOT_FOUND);
        fault(x, "x", 0, 1);
        fault(x, "", NOT_FOUND, NOT_FOUND);
        fault(x, "t1;", NOT_FOUND, NOT_FOUND);
        fault(x, "t1;".repeat(20), NOT_FOUND, NOT_FOUND);
        x.line(0, 1, 0);
        fault(x, "e0;x;d;", NOT_FOUND, NOT_FOUND);
        due(0, x.count(3));
    }

    private static void textStays() {
        LampRanks x = ofRanks(1);
        withText(x, "e0;t2;");
        due(2, x.play());
        due(6, x.count(12));
        due(2, x.play());
        due(2, x.count(3));
        due(1, x.count(4));
        due(4, x.count(2));
        x.undo();
        due(6, x.count(12));
        due(2, x.count(2));
        due(2, x.play());
        due(7, x.type('x'));
        due(NOT_POSSIBLE, x.play());
        due(7, x.count(12));
        due(8, x.type(';'));
        due(3, x.play());
        due(0, x.serviceAt(0));
        due(8, x.count(12));
        // Each event is what its call is: waits, accounts, turns and acknowledges go on from the board.
        LampRanks y = new LampRanks();
        y.node(0, 1);
        y.line(1, 4, 0);
        y.line(1, 4, 1);
        y.edge(0);
        y.tick(5);
        due(7, withText(y, "t2;x;l1,1;d;x;t1;d;").play());
        due(7, y.lineOf(0, 10));
        inputs(y, 1, 0, 1);
        due(1, y.count(6));
        due(1, y.count(7));
        due(2, y.lineOf(0, 11));
        due(3, y.lineOf(1, 11));
        y.edge(0);
        due(2, withText(y, "t2;x;").play());
        due(7, y.lineOf(0, 10));
        due(10, y.count(2));
    }

    private static void oneChange() {
        LampRanks x = ofRanks(1);
        due(0, x.play());
        due(2, x.count(11));
        due(1, x.undo());
        withText(x, "e0;t1;x;d;t9;m0,1;");
        due(6, x.play());
        due(2, x.count(11));
        due(10, x.count(2));
        due(1, x.undo());
        due(0, x.count(2));
        due(0, x.lines(4));
        due(0, x.count(3));
        due(1, x.count(1));
        // Texts without events fill the history as well.
        x.clearText();
        for (int times = 2; times <= 6; times++) {
            due(0, x.play());
            due(Math.min(times, 4), x.count(11));
        }
        due(3, x.undo());
        due(1, x.count(1));
    }

    private static void howManyEvents() {
        LampRanks x = litOfRanks(1);
        due(0, withText(x, "").play());
        due(1, withText(x, "t1;").play());
        due(20, withText(x, "t1;".repeat(20)).play());
        due(21, x.count(2));
        // The most events that fit: of two characters each.
        x.late(0);
        due(2, withText(x, "x;d;").play());
        x.line(0, 2, 1);
        x.level(1, 1);
        due(30, withText(x, "x;d;".repeat(15)).play());
        due(15, x.lineOf(1, 9));
        due(16, x.count(10));
        due(NOT_FOUND, x.fault(0));
    }

    private static void playOfAFault() {
        LampRanks x = litOfRanks(1);
        for (String text : new String[] {"e0;x;d;x;", "e0", ";", "t0;", "e1;", "m0,0;", "t1;d;", "t1;t1; "}) {
            due(NOT_POSSIBLE, withText(x, text).play());
            due(text.length(), x.count(12));
        }
        due(0, x.count(2));
        due(1, x.count(3));
        due(2, x.count(11));
        due(1, x.lines(1));
        // The same text is possible later.
        withText(x, "d;");
        due(NOT_POSSIBLE, x.play());
        x.take();
        due(1, x.play());
        due(NOT_POSSIBLE, x.play());
    }
}
