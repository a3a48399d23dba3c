import java.util.List;
import java.util.function.Supplier;
import java.util.function.ToIntFunction;

/** The sentences of 'Texts' and of 'Changes and errors' that name a boundary. */
final class ChangeSentences extends Sentences {
    static void all() {
        texts();
        reasons();
        history();
        errors();
    }

    private static void texts() {
        String section = "Texts";
        test(section, "There is a text of at most 60 characters, initially empty", ChangeSentences::longestText);
        test(section, "events, each followed by \";\"", ChangeSentences::eachFollowed);
        test(section, "\"e\" a line (an edge)", ChangeSentences::edgeEvents);
        test(section, "\"l\" a line \",\" a level (0 or 1)", ChangeSentences::levelEvents);
        test(section, "\"m\" a line \",\" 1 or 0 (it is masked or not)", ChangeSentences::maskEvents);
        test(section, "\"x\" (the next line is taken)", ChangeSentences::takeEvents);
        test(section, "\"d\" (done)", ChangeSentences::doneEvents);
        test(section, "or \"t\" ticks", ChangeSentences::tickEvents);
        test(section, "numbers of one or two digits, 0 ahead allowed.", ChangeSentences::digits);
        test(section, "The fault of the text is the position, from 0, of the first character of the first event"
                + " that is not possible", ChangeSentences::positions);
        test(section, "when those ahead of it are done", ChangeSentences::thoseAheadAreDone);
    }

    private static void reasons() {
        String section = "Texts";
        test(section, "its reason is the first of these", ChangeSentences::firstReason);
        test(section, "1 it is not of this form, its \";\" included", ChangeSentences::wrongForm);
        test(section, "2 an argument is out of its range", ChangeSentences::wrongArgument);
        test(section, "3 it is not possible otherwise.", ChangeSentences::notPossible);
    }

    private static void history() {
        String section = "Changes and errors";
        test(section, "The changes are the calls of node, line, edge, level, mask, maskNode, threshold, late, take,"
                + " done, tick and play that return no error.", ChangeSentences::changes);
        test(section, "A history of at most 4 states is kept", ChangeSentences::mostStates);
        test(section, "each change records everything before it but the text", ChangeSentences::everythingIsRecorded);
        test(section, "if there are 5 states then, the oldest one is dropped.", ChangeSentences::oldestIsDropped);
    }

    private static void errors() {
        String section = "Changes and errors";
        test(section, "INVALID_ARGUMENT is returned rather than NOT_POSSIBLE", ChangeSentences::invalidOrNotPossible);
        test(section, "NOT_POSSIBLE rather than LIMIT_REACHED", ChangeSentences::invalidOrLimit);
        test(section, "LIMIT_REACHED rather than NOT_FOUND.", ChangeSentences::limitOrNotFound);
        test(section, "A call that returns an error changes nothing.", ChangeSentences::errorsChangeNothing);
        test(section, "If there is no node or line with a certain number, this is INVALID_ARGUMENT.",
                ChangeSentences::noSuchNumber);
        test(section, "INVALID_ARGUMENT = -1: An argument is out of its range, or there is no such node or line.",
                () -> due(-1, constant("INVALID_ARGUMENT")));
        test(section, "NOT_POSSIBLE = -2: The call is not possible in the present state.",
                () -> due(-2, constant("NOT_POSSIBLE")));
        test(section, "LIMIT_REACHED = -3: A fixed limit has been reached.",
                () -> due(-3, constant("LIMIT_REACHED")));
        test(section, "NOT_FOUND = -4: There is no such value.", () -> due(-4, constant("NOT_FOUND")));
    }

    /** Looked up in the class, as the compiler puts the number itself where the name stands. */
    private static int constant(String name) {
        try {
            return LampRanks.class.getField(name).getInt(null);
        } catch (ReflectiveOperationException thrown) {
            throw new IllegalStateException(thrown);
        }
    }

    /** Lines 0 and 1 of edges, line 2 of a level. */
    private static LampRanks forTexts() {
        LampRanks x = ofRanks(1, 5);
        x.line(0, 2, 1);
        return x;
    }

    private static void possible(LampRanks x, String... texts) {
        for (String text : texts) {
            fault(x, text, NOT_FOUND, NOT_FOUND);
        }
    }

    private static void faults(LampRanks x, int reason, String... texts) {
        for (String text : texts) {
            fault(x, text, 0, reason);
        }
    }

    private static void longestText() {
        LampRanks x = ofRanks(1);
        due(0, x.count(12));
        for (int event = 1; event <= 20; event++) {
            due(3 * event - 2, x.type('e'));
            due(3 * event - 1, x.type('0'));
            due(3 * event, x.type(';'));
        }
        due(LIMIT, x.type('e'));
        due(LIMIT, x.type(';'));
        due(60, x.count(12));
        due(NOT_FOUND, x.fault(0));
        due(20, x.play());
        due(20, x.count(3));
        due(60, x.clearText());
        due(1, x.type('e'));
    }

    private static void eachFollowed() {
        LampRanks x = forTexts();
        possible(x, "", "e0;", "e0;e1;", "e0;x;d;t1;l2,1;m0,1;");
        fault(x, "e0;e1", 3, 1);
        fault(x, "e0e1;", 0, 1);
        fault(x, "e0;;e1;", 3, 1);
        fault(x, "e0; e1;", 3, 1);
        fault(x, "e0;e1; ", 6, 1);
        fault(x, "e0,e1;", 0, 1);
        fault(x, ";e0;", 0, 1);
        fault(x, "e0;x", 3, 1);
        fault(x, "e0;l2,1", 3, 1);
    }

    private static void edgeEvents() {
        LampRanks x = forTexts();
        possible(x, "e0;", "e1;", "e01;", "e0;e0;");
        faults(x, 1, "e", "e;", "e0", "e0,;", "e0,1;", "E0;", "e-0;", "e 0;", "e+1;", "ex;");
        faults(x, 2, "e3;", "e16;", "e99;");
        faults(x, 3, "e2;");
        due(2, withText(x, "e1;e1;").play());
        due(2, x.lines(0));
        due(2, x.lineOf(1, 7));
        due(1, x.lineOf(1, 8));
    }

    private static void levelEvents() {
        LampRanks x = forTexts();
        possible(x, "l2,1;", "l2,1;l2,0;", "l02,01;l2,00;");
        faults(x, 1, "l", "l;", "l2;", "l2,;", "l,1;", "l2,1", "l2,1,;", "l21;", "L2,1;", "l2;1;", "l2,-1;");
        faults(x, 2, "l3,1;", "l99,0;", "l2,2;", "l2,10;", "l2,99;");
        faults(x, 3, "l2,0;", "l0,1;", "l0,0;");
        fault(x, "l2,1;l2,1;", 5, 3);
        due(1, withText(x, "l2,1;").play());
        due(4, x.lines(0));
        due(1, withText(x, "l2,0;").play());
        due(0, x.lines(0));
    }

    private static void maskEvents() {
        LampRanks x = forTexts();
        possible(x, "m0,1;", "m2,1;", "m0,1;m0,0;m1,1;", "m00,01;m0,00;");
        faults(x, 1, "m", "m;", "m0;", "m0,;", "m,1;", "m0,1", "m0,1,;", "m01;", "M0,1;", "m0 1;");
        faults(x, 2, "m3,1;", "m99,0;", "m0,2;", "m0,10;");
        faults(x, 3, "m0,0;");
        fault(x, "m0,1;m0,1;", 5, 3);
        due(2, withText(x, "m0,1;m2,1;").play());
        due(5, x.lines(4));
        due(1, withText(x, "m0,0;").play());
        due(4, x.lines(4));
    }

    private static void takeEvents() {
        LampRanks x = forTexts();
        possible(x, "e0;x;", "e0;x;e1;x;");
        faults(x, 1, "x", "x0;", "x,;", "X;", "x x;");
        faults(x, 3, "x;");
        fault(x, "e0;x;x;", 5, 3);
        due(3, withText(x, "e0;e1;x;").play());
        due(1, x.serviceAt(0));
        due(1, x.lines(0));
        // Four lines are the most in service in a text, too.
        LampRanks y = litOfRanks(1, 2, 3, 4, 5);
        y.mask(4, 1);
        y.mask(3, 1);
        y.mask(2, 1);
        y.mask(1, 1);
        possible(y, "x;m1,0;x;m2,0;x;m3,0;x;");
        fault(y, "x;m1,0;x;m2,0;x;m3,0;x;m4,0;x;", 28, 3);
    }

    private static void doneEvents() {
        LampRanks x = forTexts();
        possible(x, "e0;x;d;", "e0;x;e1;x;d;d;");
        faults(x, 1, "d", "d0;", "d,;", "D;");
        faults(x, 3, "d;");
        fault(x, "e0;x;d;d;", 7, 3);
        due(5, withText(x, "e0;x;e1;x;d;").play());
        due(2, x.lines(3));
        due(1, x.lines(2));
    }

    private static void tickEvents() {
        LampRanks x = forTexts();
        possible(x, "t1;", "t99;", "t01;", "t1;t99;");
        faults(x, 1, "t", "t;", "t1", "t1,1;", "T1;", "t-1;", "t100;");
        faults(x, 2, "t0;", "t00;");
        due(2, withText(x, "t1;t99;").play());
        due(100, x.count(2));
        LampRanks y = atTime(49999);
        possible(y, "t1;");
        faults(y, 3, "t2;", "t99;");
        fault(y, "t1;t1;", 3, 3);
        due(1, withText(y, "t1;").play());
        due(50000, y.count(2));
        faults(y, 3, "t1;");
        faults(y, 2, "t0;");
    }

    private static void digits() {
        LampRanks x = sixteenLines(3);
        possible(x, "e0;", "e9;", "e00;", "e09;", "e10;", "e15;", "m15,01;", "t9;", "t09;", "t10;");
        faults(x, 1, "e;", "e000;", "e010;", "e150;", "m015,1;", "m0,001;", "m0,;", "t;", "t009;", "t100;");
        faults(x, 1, "e/;", "e:;", "e0/;", "e0:;", "ea;", "e1.;");
        faults(x, 2, "e16;", "e90;", "e99;", "m16,1;");
        due(3, withText(x, "e07;e13;t08;").play());
        due(128 + 8192, x.lines(0));
        due(8, x.count(2));
    }

    private static void positions() {
        LampRanks x = forTexts();
        fault(x, "?", 0, 1);
        fault(x, "x;", 0, 3);
        fault(x, "t1;x;", 3, 3);
        fault(x, "t1;t1;m0,2;", 6, 2);
        // Only the first event that isn't possible counts.
        fault(x, "t1;x;??;", 3, 3);
        fault(x, "d;e9;", 0, 3);
        // The first character of the event is told, not the one at which it goes wrong.
        fault(x, "t1;m0,1?", 3, 1);
        fault(x, "t1;l2,001;", 3, 1);
        // The last character of the longest text.
        fault(x, "e0;x;" + "t1;".repeat(18) + "e", 59, 1);
        fault(x, "e0;e1;" + "t1;".repeat(17) + "t12", 57, 1);
        fault(x, "e0;e1;" + "t1;".repeat(17) + "t0;", 57, 2);
    }

    private static void thoseAheadAreDone() {
        LampRanks x = forTexts();
        faults(x, 3, "x;", "d;");
        possible(x, "e0;x;d;", "e1;x;d;e1;t3;x;", "m0,1;e0;m0,0;x;");
        fault(x, "e1;x;d;e1;t2;x;", 13, 3);
        fault(x, "e1;x;e0;x;", 8, 3);
        fault(x, "e0;m0,1;x;", 8, 3);
        // They are done for the fault alone: the board stays, and each asking begins anew.
        due(0, x.lines(0) + x.lines(4) + x.count(2) + x.count(3));
        due(3, x.count(11));
        x.edge(1);
        withText(x, "x;d;x;");
        for (int times = 0; times < 3; times++) {
            due(4, x.fault(0));
            due(3, x.fault(1));
        }
        // What is done beside the text counts, too: edges, and masks of nodes.
        x.edge(0);
        due(NOT_FOUND, x.fault(0));
        LampRanks y = chain(1);
        y.line(5, 4, 0);
        y.edge(0);
        withText(y, "x;");
        for (int node = 0; node <= 5; node++) {
            y.maskNode(node, 1);
            due(0, y.fault(0));
            due(3, y.fault(1));
            y.maskNode(node, 0);
            due(NOT_FOUND, y.fault(0));
        }
    }

    private static void firstReason() {
        LampRanks x = forTexts();
        // 1 rather than 2.
        faults(x, 1, "e99", "m0,2", "t0", "l9,9,", "e16:");
        // 1 rather than 3.
        faults(x, 1, "x", "d", "e2", "l0,1", "m0,0");
        // 2 rather than 3.
        faults(x, 2, "l0,2;", "l1,9;", "m9,0;");
    }

    private static void wrongForm() {
        LampRanks x = forTexts();
        faults(x, 1, ";", " ", " e0;", "e0 ;", "a;", "~;", ",;", "0;", "1", "q", "n0,1;", "u;");
        faults(x, 1, "e0", "x", "d", "t1", "l2,1", "m0,1", "l2,", "l2", "l");
    }

    private static void wrongArgument() {
        LampRanks x = forTexts();
        faults(x, 2, "e3;", "l3,0;", "m3,1;", "l2,2;", "m2,2;", "t0;");
        possible(x, "e1;", "l2,1;", "m2,1;", "t1;", "t99;");
        LampRanks none = new LampRanks();
        faults(none, 2, "e0;", "l0,0;", "m0,0;");
        LampRanks most = sixteenLines(1);
        possible(most, "e15;", "m15,1;");
        faults(most, 2, "e16;", "m16,1;");
    }

    private static void notPossible() {
        LampRanks x = forTexts();
        faults(x, 3, "e2;", "l0,1;", "l2,0;", "m0,0;", "x;", "d;");
        LampRanks y = fourInService();
        y.edge(4);
        faults(y, 3, "x;");
        possible(y, "d;x;");
        faults(atTime(50000), 3, "t1;");
    }

    private static void changes() {
        List<ToIntFunction<LampRanks>> changes = List.of(
                x -> x.node(0, 0), x -> x.line(0, 3, 1), x -> x.edge(0), x -> x.level(1, 1),
                x -> x.mask(0, 1), x -> x.maskNode(0, 1), x -> x.threshold(0), x -> x.late(3),
                x -> x.tick(1), x -> withText(x, "t5;").play(), x -> withText(x, "").play());
        for (ToIntFunction<LampRanks> change : changes) {
            LampRanks x = ofRanks(1);
            x.line(0, 2, 1);
            recordsOne(x, change);
        }
        LampRanks x = litOfRanks(1);
        recordsOne(x, LampRanks::take);
        x.edge(0);
        x.take();
        x.undo();
        x.undo();
        x.take();
        recordsOne(x, LampRanks::done);
        // An edge that is lost, and settings that stay the same, are changes too.
        LampRanks y = litOfRanks(1);
        recordsOne(y, it -> it.edge(0));
        recordsOne(y, it -> it.threshold(0));
        recordsOne(y, it -> it.late(3));
        noChanges();
    }

    private static void recordsOne(LampRanks x, ToIntFunction<LampRanks> change) {
        int states = x.count(11);
        due(1, change.applyAsInt(x) >= 0 ? 1 : 0);
        due(states + 1, x.count(11));
        due(states, x.undo());
    }

    /** Those that ask, those of the text, and those that return an error. */
    private static void noChanges() {
        List<ToIntFunction<LampRanks>> calls = List.of(
                x -> x.lineOf(0, 0), x -> x.nodeOf(0, 2), x -> x.inputAt(0, 0), LampRanks::next, x -> x.orderAt(0),
                x -> x.serviceAt(0), x -> x.waitingAt(0), x -> x.lines(0), x -> x.count(2), x -> x.type('e'),
                LampRanks::clearText, x -> x.fault(0), x -> x.edge(7), x -> x.level(0, 1), x -> x.mask(0, 0),
                x -> x.maskNode(0, 0), x -> x.threshold(9), x -> x.late(51), LampRanks::take, LampRanks::done,
                x -> x.tick(0), x -> withText(x, "e").play(), x -> x.node(1, 0), x -> x.line(1, 0, 0));
        for (ToIntFunction<LampRanks> call : calls) {
            LampRanks x = ofRanks(1, 2);
            call.applyAsInt(x);
            due(2, x.count(11));
            due(1, x.undo());
            due(1, x.count(1));
        }
    }

    private static void mostStates() {
        LampRanks x = new LampRanks();
        for (int change = 1; change <= 12; change++) {
            due(Math.min(change - 1, 4), x.count(11));
            x.tick(1);
        }
        due(4, x.count(11));
        for (int left = 3; left >= 0; left--) {
            due(left, x.undo());
            due(left, x.count(11));
        }
        due(NOT_POSSIBLE, x.undo());
        due(8, x.count(2));
    }

    private static void oldestIsDropped() {
        LampRanks x = new LampRanks();
        for (int ticks : new int[] {1, 10, 20, 30, 40}) {
            x.tick(ticks);
        }
        // The state at 0 is dropped, those at 1, 11, 31 and 61 are kept.
        for (int time : new int[] {61, 31, 11, 1}) {
            x.undo();
            due(time, x.count(2));
        }
        due(NOT_POSSIBLE, x.undo());
        due(1, x.count(2));
        // Kept and taken back in turns, many times round.
        LampRanks y = new LampRanks();
        for (int round = 1; round <= 20; round++) {
            y.tick(round);
            y.tick(50);
            y.tick(50);
            y.undo();
            y.undo();
            due(round * (round + 1) / 2, y.count(2));
            due(Math.min(round, 2), y.count(11));
        }
        due(1, y.undo());
        due(190, y.count(2));
        due(0, y.undo());
        due(171, y.count(2));
    }

    private static LampRanks inFullUse() {
        LampRanks x = new LampRanks();
        x.node(0, 1);
        x.node(1, 1);
        x.line(1, 2, 0);
        x.line(2, 2, 0);
        x.line(0, 5, 1);
        x.line(1, 4, 0);
        edges(x, 0, 1, 1, 3);
        x.tick(2);
        x.take();
        x.done();
        x.take();
        x.level(2, 1);
        x.mask(2, 1);
        edges(x, 3);
        x.tick(1);
        x.maskNode(2, 1);
        x.late(7);
        x.threshold(2);
        return withText(x, "t1;e0;");
    }

    /** Each kind of change is undone: all is told as by a board on which it never was. */
    private static void everythingIsRecorded() {
        List<ToIntFunction<LampRanks>> changes = List.of(
                x -> x.node(1, 1), x -> x.line(2, 3, 0), x -> x.edge(0), x -> x.edge(3), x -> x.level(2, 0),
                x -> x.mask(2, 0), x -> x.mask(1, 1), x -> x.maskNode(2, 0), x -> x.maskNode(0, 1),
                x -> x.threshold(0), x -> x.late(0), LampRanks::done, x -> x.tick(1), x -> x.tick(2), LampRanks::play);
        for (ToIntFunction<LampRanks> change : changes) {
            undone(ChangeSentences::inFullUse, change);
        }
        Supplier<LampRanks> toTake = () -> {
            LampRanks x = inFullUse();
            x.mask(2, 0);
            return x;
        };
        undone(toTake, LampRanks::take);
        waitsAreRecorded();
        // The text isn't recorded: it stays as it is.
        LampRanks x = inFullUse();
        x.tick(1);
        withText(x, "e1;e1;e1;");
        x.undo();
        due(9, x.count(12));
        due(3, x.play());
        x.clearText();
        x.undo();
        due(0, x.count(12));
    }

    /** The longest wait, and the time of the edge by which a line became lit. */
    private static void waitsAreRecorded() {
        LampRanks x = litOfRanks(1);
        x.late(0);
        x.tick(2);
        x.take();
        x.done();
        x.edge(0);
        x.tick(9);
        x.take();
        due(9, x.lineOf(0, 10));
        x.undo();
        due(2, x.lineOf(0, 10));
        x.take();
        x.tick(1);
        x.edge(0);
        x.undo();
        x.undo();
        x.undo();
        // Lit since time 2 again, not since 12.
        due(1, x.lineOf(0, 3));
        x.tick(8);
        x.take();
        due(17, x.lineOf(0, 10));
    }

    private static void undone(Supplier<LampRanks> board, ToIntFunction<LampRanks> change) {
        LampRanks x = board.get();
        LampRanks y = board.get();
        due(1, change.applyAsInt(x) >= 0 ? 1 : 0);
        x.undo();
        y.tick(1);
        y.undo();
        same(x, y);
    }

    /** All is told the same, also after each has gone on. */
    private static void same(LampRanks x, LampRanks y) {
        due(1, everything(x).equals(everything(y)) ? 1 : 0);
        for (LampRanks it : new LampRanks[] {x, y}) {
            it.threshold(0);
            it.tick(4);
            it.edge(0);
            it.take();
            it.line(1, 1, 1);
            it.node(1, 1);
        }
        due(1, everything(x).equals(everything(y)) ? 1 : 0);
    }

    private static void invalidOrNotPossible() {
        LampRanks x = forTexts();
        x.mask(0, 1);
        due(INVALID, x.level(0, 2));
        due(INVALID, x.level(0, -1));
        due(INVALID, x.level(3, 0));
        due(INVALID, x.mask(3, 0));
        due(INVALID, x.mask(0, 2));
        due(INVALID, x.maskNode(1, 0));
        due(INVALID, x.edge(3));
    }

    /** No call can be refused with NOT_POSSIBLE and LIMIT_REACHED; so INVALID_ARGUMENT is what is left. */
    private static void invalidOrLimit() {
        LampRanks nodes = chain(0);
        due(LIMIT, nodes.node(5, 1));
        due(INVALID, nodes.node(6, 1));
        due(INVALID, nodes.node(5, 2));
        LampRanks lines = sixteenLines(0);
        due(LIMIT, lines.line(0, 7, 1));
        due(INVALID, lines.line(1, 7, 1));
        due(INVALID, lines.line(0, 8, 1));
        due(INVALID, lines.line(0, 7, 2));
        LampRanks time = atTime(50000);
        due(LIMIT, time.tick(1));
        due(INVALID, time.tick(0));
        due(INVALID, time.tick(100));
        due(INVALID, time.tick(MOST));
        LampRanks text = withText(new LampRanks(), "t".repeat(60));
        due(LIMIT, text.type(32));
        due(INVALID, text.type(31));
        due(INVALID, text.type(127));
    }

    private static void limitOrNotFound() {
        LampRanks x = fourInService();
        due(NOT_FOUND, x.next());
        due(LIMIT, x.take());
        x.done();
        due(NOT_FOUND, x.take());
        // INVALID_ARGUMENT rather than NOT_FOUND.
        LampRanks y = ofRanks(1);
        due(INVALID, y.lineOf(1, 10));
        due(INVALID, y.lineOf(1, 11));
        due(INVALID, y.nodeOf(-1, 0));
        due(INVALID, y.inputAt(1, 9));
        due(INVALID, y.inputAt(0, -1));
        due(INVALID, y.orderAt(-1));
        due(INVALID, y.serviceAt(-1));
        due(INVALID, y.waitingAt(-1));
        due(INVALID, y.fault(2));
    }

    private static void errorsChangeNothing() {
        List<ToIntFunction<LampRanks>> refused = List.of(
                x -> x.node(3, 1), x -> x.node(0, 2), x -> x.line(3, 1, 0), x -> x.line(0, 8, 0),
                x -> x.line(0, 1, 2), x -> x.mask(4, 1), x -> x.mask(0, 2), x -> x.mask(2, 1), x -> x.mask(0, 0),
                x -> x.maskNode(3, 1), x -> x.maskNode(1, 2), x -> x.maskNode(2, 1), x -> x.maskNode(0, 0),
                x -> x.threshold(9), x -> x.threshold(-1), x -> x.late(51), x -> x.late(-1), x -> x.edge(4),
                x -> x.edge(2), x -> x.level(4, 1), x -> x.level(2, 2), x -> x.level(0, 1), x -> x.level(2, 1),
                LampRanks::take, x -> x.tick(0), x -> x.tick(100), x -> x.tick(MOST), x -> x.type(31),
                x -> x.type(127), x -> x.fault(2), x -> x.lineOf(4, 3), x -> x.lineOf(0, 12), x -> x.nodeOf(3, 1),
                x -> x.nodeOf(0, 6), x -> x.inputAt(0, 9), x -> x.orderAt(-1), x -> x.serviceAt(4),
                x -> x.waitingAt(16), x -> x.lines(6), x -> x.count(13));
        for (ToIntFunction<LampRanks> call : refused) {
            unchanged(ChangeSentences::inFullUse, call);
        }
        refusedPlays();
        refusedAtLimits();
    }

    private static void unchanged(Supplier<LampRanks> board, ToIntFunction<LampRanks> call) {
        LampRanks x = board.get();
        LampRanks y = board.get();
        due(1, call.applyAsInt(x) < 0 ? 1 : 0);
        same(x, y);
        // Nor does it change what is in the history.
        LampRanks undone = board.get();
        call.applyAsInt(undone);
        LampRanks other = board.get();
        for (int state = 1; state <= 5; state++) {
            due(other.undo(), undone.undo());
            due(other.count(2), undone.count(2));
            due(other.count(1), undone.count(1));
        }
        due(1, everything(undone).equals(everything(other)) ? 1 : 0);
    }

    /** Events ahead of a fault aren't done. */
    private static void refusedPlays() {
        for (String text : new String[] {"e0;t1;x;", "e0;e0;d;d;", "m0,1;e", "l2,0;t0;", "m2,0;x;e9;", "?"}) {
            unchanged(() -> withText(inFullUse(), text), LampRanks::play);
        }
    }

    private static void refusedAtLimits() {
        unchanged(Sentences::fourInService, LampRanks::take);
        unchanged(() -> ofRanks(1), LampRanks::take);
        unchanged(() -> ofRanks(1), LampRanks::done);
        unchanged(LampRanks::new, LampRanks::undo);
        unchanged(() -> chain(1), x -> x.node(5, 0));
        unchanged(() -> atTime(50000), x -> x.tick(1));
        unchanged(() -> atTime(49950), x -> x.tick(51));
        unchanged(() -> withText(inFullUse(), "t1;".repeat(20)), x -> x.type('t'));
        LampRanks x = sixteenLines(1);
        LampRanks y = sixteenLines(1);
        due(LIMIT, x.line(0, 7, 1));
        due(1, everything(x).equals(everything(y)) ? 1 : 0);
    }

    private static void noSuchNumber() {
        LampRanks x = new LampRanks();
        noSuchLine(x, 0);
        noSuchNode(x, 0);
        x.node(0, 0);
        x.line(1, 1, 0);
        x.line(1, 1, 1);
        noSuchLine(x, 2);
        LampRanks y = new LampRanks();
        y.node(0, 0);
        noSuchNode(y, 1);
        LampRanks most = sixteenLines(1);
        noSuchLine(most, 16);
        noSuchNode(chain(0), 5);
        // What was added and undone isn't there any more.
        LampRanks undone = ofRanks(1, 1);
        undone.node(0, 0);
        undone.undo();
        undone.undo();
        due(INVALID, undone.nodeOf(1, 2));
        due(INVALID, undone.edge(1));
        due(1, undone.edge(0));
    }

    private static void noSuchLine(LampRanks x, int lines) {
        int[] none = lines == 0 ? new int[] {LEAST, -1, 0, 1, 32, MOST} : outside(0, lines - 1);
        each(INVALID, none, line -> x.edge(line));
        each(INVALID, none, line -> x.level(line, 1));
        each(INVALID, none, line -> x.mask(line, 1));
        for (int what : new int[] {0, 3, 6, 10, 11}) {
            each(INVALID, none, line -> x.lineOf(line, what));
        }
    }

    private static void noSuchNode(LampRanks x, int last) {
        int[] none = outside(0, last);
        each(INVALID, none, node -> x.node(node, 0));
        each(INVALID, none, node -> x.line(node, 1, 0));
        each(INVALID, none, node -> x.maskNode(node, 1));
        each(INVALID, none, node -> x.inputAt(node, 0));
        for (int what : new int[] {0, 2, 4, 5}) {
            each(INVALID, none, node -> x.nodeOf(node, what));
        }
    }
}
