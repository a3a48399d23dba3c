/**
 * Interrupt lamps: lines of edges and of levels on a tree of nodes whose inputs take turns.
 *
 * <p>The rules of the lamps stand in Board; this class adds the history of boards and the text of
 * events. All rows are made in the constructor, so that no call makes an object.
 */
public final class LampRanks {
    public static final int INVALID_ARGUMENT = -1;
    public static final int NOT_POSSIBLE = -2;
    public static final int LIMIT_REACHED = -3;
    public static final int NOT_FOUND = -4;

    private static final int MOST_NODES = 6;
    private static final int MOST_LINES = 16;
    private static final int MOST_INPUTS = MOST_LINES + MOST_NODES - 1;
    private static final int HIGHEST_RANK = 7;
    private static final int HIGHEST_THRESHOLD = 8;
    private static final int MOST_IN_SERVICE = 4;
    private static final int FIRST_LATE = 3;
    private static final int MOST_LATE = 50;
    private static final int MOST_TICKS = 99;
    private static final int LAST_TIME = 50000;
    private static final int MOST_STATES = 4;
    private static final int MOST_SIGNS = 60;
    private static final int LOWEST_SIGN = 32;
    private static final int HIGHEST_SIGN = 126;

    /** An input that is a node is told as its number and this. */
    private static final int NODE_INPUT = 100;

    /** Stands where there is no number; all numbers that are held are at least 0. */
    private static final int NONE = -1;

    private static final int OPEN = 0;
    private static final int IN_SERVICE = 1;
    private static final int WAITING = 2;

    private static final int NO_FAULT = 0;
    private static final int WRONG_FORM = 1;
    private static final int WRONG_ARGUMENT = 2;
    private static final int NOT_NOW = 3;

    private final Board board;
    private final Board trial;
    private final History history;
    private final EventText text;

    public LampRanks() {
        board = new Board();
        trial = new Board();
        history = new History();
        text = new EventText();
    }

    // ---- nodes, lines

    public int node(int on, int turning) {
        history.prepare(board);
        return history.close(board.addNode(on, turning));
    }

    public int line(int on, int rank, int level) {
        history.prepare(board);
        return history.close(board.addLine(on, rank, level));
    }

    public int mask(int line, int is) {
        history.prepare(board);
        return history.close(board.setLineMask(line, is));
    }

    public int maskNode(int node, int is) {
        history.prepare(board);
        return history.close(board.setNodeMask(node, is));
    }

    public int threshold(int rank) {
        history.prepare(board);
        return history.close(board.setThreshold(rank));
    }

    public int late(int ticks) {
        history.prepare(board);
        return history.close(board.setLate(ticks));
    }

    public int lineOf(int line, int what) {
        return board.tellLine(line, what);
    }

    public int nodeOf(int node, int what) {
        return board.tellNode(node, what);
    }

    public int inputAt(int node, int index) {
        return board.tellInput(node, index);
    }

    // ---- events

    public int edge(int line) {
        history.prepare(board);
        return history.close(board.giveEdge(line));
    }

    public int level(int line, int level) {
        history.prepare(board);
        return history.close(board.setLevel(line, level));
    }

    public int take() {
        history.prepare(board);
        return history.close(board.takeNext());
    }

    public int done() {
        history.prepare(board);
        return history.close(board.endService());
    }

    public int tick(int ticks) {
        history.prepare(board);
        return history.close(board.passTicks(ticks));
    }

    // ---- who is next

    public int next() {
        int line = board.nextLine();
        return line == NONE ? NOT_FOUND : line;
    }

    public int orderAt(int index) {
        if (index < 0) {
            return INVALID_ARGUMENT;
        }
        if (index >= MOST_LINES) {
            return NOT_FOUND;
        }
        trial.copyFrom(board);
        for (int taken = 0; taken < index; taken++) {
            trial.passOver(trial.nextLine());
        }
        int line = trial.nextLine();
        return line == NONE ? NOT_FOUND : line;
    }

    public int serviceAt(int index) {
        return board.tellService(index);
    }

    public int waitingAt(int index) {
        return board.tellWaiting(index);
    }

    public int lines(int what) {
        switch (what) {
            case 0:
                return board.litSet();
            case 1:
                return board.readySet();
            case 2:
                return board.stageSet(IN_SERVICE);
            case 3:
                return board.stageSet(WAITING);
            case 4:
                return board.ownMaskSet();
            case 5:
                return board.anyMaskSet();
            default:
                return INVALID_ARGUMENT;
        }
    }

    public int count(int what) {
        switch (what) {
            case 11:
                return history.size;
            case 12:
                return text.length;
            default:
                return board.tellNumber(what);
        }
    }

    public int undo() {
        return history.restore(board);
    }

    // ---- texts

    public int type(int character) {
        return text.append(character);
    }

    public int clearText() {
        return text.makeEmpty();
    }

    public int fault(int what) {
        if (!isBit(what)) {
            return INVALID_ARGUMENT;
        }
        trial.copyFrom(board);
        text.runOn(trial);
        if (text.reason == NO_FAULT) {
            return NOT_FOUND;
        }
        return what == 0 ? text.start : text.reason;
    }

    public int play() {
        trial.copyFrom(board);
        int events = text.runOn(trial);
        if (text.reason != NO_FAULT) {
            return NOT_POSSIBLE;
        }
        history.prepare(board);
        board.copyFrom(trial);
        return history.close(events);
    }

    private static boolean isBit(int number) {
        return number == 0 || number == 1;
    }

    private static int asBit(boolean is) {
        return is ? 1 : 0;
    }

    /** A short list of numbers; each has room for all inputs that one node can have. */
    private static final class Row {
        private final int[] cells;
        private int size;

        Row() {
            cells = new int[MOST_INPUTS];
        }

        int get(int index) {
            return index >= 0 && index < size ? cells[index] : NONE;
        }

        void insert(int index, int number) {
            if (index < 0 || index > size || size >= cells.length) {
                return;
            }
            for (int k = size; k > index; k--) {
                cells[k] = cells[k - 1];
            }
            cells[index] = number;
            size++;
        }

        void remove(int index) {
            if (index < 0 || index >= size) {
                return;
            }
            for (int k = index + 1; k < size; k++) {
                cells[k - 1] = cells[k];
            }
            size--;
        }

        void moveBehind(int number) {
            for (int k = 0; k < size; k++) {
                if (cells[k] == number) {
                    remove(k);
                    insert(size, number);
                    return;
                }
            }
        }

        void copyFrom(Row other) {
            System.arraycopy(other.cells, 0, cells, 0, cells.length);
            size = other.size;
        }
    }

    private static final class Node {
        private final Row inputs;
        private int on;
        private boolean turning;

        /** The set of this node, the one on which it hangs, and so on. */
        private int way;

        Node() {
            inputs = new Row();
        }

        void copyFrom(Node other) {
            inputs.copyFrom(other.inputs);
            on = other.on;
            turning = other.turning;
            way = other.way;
        }
    }

    private static final class Line {
        private int node;
        private int rank;
        private boolean ofLevel;
        private boolean lit;
        private boolean masked;
        private int stage;
        private int edges;
        private int lost;
        private int taken;
        private int longestWait;

        /** The time of the edge by which it became lit. */
        private int litAt;

        /** The time when its acknowledge comes. */
        private int dueAt;

        /** The set of the nodes on its way. */
        private int way;

        void copyFrom(Line other) {
            node = other.node;
            way = other.way;
            rank = other.rank;
            ofLevel = other.ofLevel;
            lit = other.lit;
            masked = other.masked;
            stage = other.stage;
            edges = other.edges;
            lost = other.lost;
            taken = other.taken;
            longestWait = other.longestWait;
            litAt = other.litAt;
            dueAt = other.dueAt;
        }
    }

    /** All that a change can change. What answers an error has changed nothing. */
    private static final class Board {
        private final Node[] nodes;
        private final Line[] lines;
        private int nodeCount;
        private int lineCount;
        private int maskedNodes;
        private int time;
        private int threshold;
        private int late;
        private int acknowledges;

        /** Lines in service, the one that was taken first ahead. */
        private final Row service;

        /** Lines that wait for acknowledges, the one whose acknowledge comes first ahead. */
        private final Row waiting;

        /** How many inputs of each node a walk through the tree has gone through. */
        private final int[] walked;

        Board() {
            nodes = new Node[MOST_NODES];
            for (int k = 0; k < MOST_NODES; k++) {
                nodes[k] = new Node();
            }
            lines = new Line[MOST_LINES];
            for (int k = 0; k < MOST_LINES; k++) {
                lines[k] = new Line();
            }
            service = new Row();
            waiting = new Row();
            walked = new int[MOST_NODES];
            nodes[0].on = NONE;
            nodes[0].way = 1;
            nodeCount = 1;
            late = FIRST_LATE;
        }

        /** Copies lines and nodes that aren't there too, so that those stay as new. */
        void copyFrom(Board other) {
            for (int k = 0; k < MOST_NODES; k++) {
                nodes[k].copyFrom(other.nodes[k]);
            }
            for (int k = 0; k < MOST_LINES; k++) {
                lines[k].copyFrom(other.lines[k]);
            }
            nodeCount = other.nodeCount;
            lineCount = other.lineCount;
            maskedNodes = other.maskedNodes;
            time = other.time;
            threshold = other.threshold;
            late = other.late;
            acknowledges = other.acknowledges;
            service.copyFrom(other.service);
            waiting.copyFrom(other.waiting);
        }

        // ---- what is there

        boolean hasNode(int number) {
            return number >= 0 && number < nodeCount;
        }

        boolean hasLine(int number) {
            return number >= 0 && number < lineCount;
        }

        int addNode(int on, int turning) {
            if (!hasNode(on) || !isBit(turning)) {
                return INVALID_ARGUMENT;
            }
            if (nodeCount >= MOST_NODES) {
                return LIMIT_REACHED;
            }
            int number = nodeCount;
            Node node = nodes[number];
            node.on = on;
            node.turning = turning == 1;
            node.way = nodes[on].way | 1 << number;
            Row inputs = nodes[on].inputs;
            inputs.insert(inputs.size, NODE_INPUT + number);
            nodeCount++;
            return number;
        }

        int addLine(int on, int rank, int level) {
            if (!hasNode(on) || rank < 0 || rank > HIGHEST_RANK || !isBit(level)) {
                return INVALID_ARGUMENT;
            }
            if (lineCount >= MOST_LINES) {
                return LIMIT_REACHED;
            }
            int number = lineCount;
            Line line = lines[number];
            line.node = on;
            line.way = nodes[on].way;
            line.rank = rank;
            line.ofLevel = level == 1;
            Row inputs = nodes[on].inputs;
            inputs.insert(inputs.size, number);
            lineCount++;
            return number;
        }

        // ---- settings

        int setLineMask(int number, int is) {
            if (!hasLine(number) || !isBit(is)) {
                return INVALID_ARGUMENT;
            }
            if (lines[number].masked == (is == 1)) {
                return NOT_POSSIBLE;
            }
            lines[number].masked = is == 1;
            return Integer.bitCount(ownMaskSet());
        }

        int setNodeMask(int number, int is) {
            if (!hasNode(number) || !isBit(is)) {
                return INVALID_ARGUMENT;
            }
            if ((maskedNodes >> number & 1) == is) {
                return NOT_POSSIBLE;
            }
            maskedNodes ^= 1 << number;
            return Integer.bitCount(linesBelow(number));
        }

        int setThreshold(int rank) {
            if (rank < 0 || rank > HIGHEST_THRESHOLD) {
                return INVALID_ARGUMENT;
            }
            int before = threshold;
            threshold = rank;
            return before;
        }

        int setLate(int ticks) {
            if (ticks < 0 || ticks > MOST_LATE) {
                return INVALID_ARGUMENT;
            }
            int before = late;
            late = ticks;
            return before;
        }

        // ---- events

        int giveEdge(int number) {
            if (!hasLine(number)) {
                return INVALID_ARGUMENT;
            }
            Line line = lines[number];
            if (line.ofLevel) {
                return NOT_POSSIBLE;
            }
            line.edges++;
            if (line.lit) {
                line.lost++;
                return 0;
            }
            line.lit = true;
            line.litAt = time;
            return 1;
        }

        int setLevel(int number, int level) {
            if (!hasLine(number) || !isBit(level)) {
                return INVALID_ARGUMENT;
            }
            Line line = lines[number];
            if (!line.ofLevel || line.lit == (level == 1)) {
                return NOT_POSSIBLE;
            }
            line.lit = level == 1;
            return Integer.bitCount(litSet());
        }

        int takeNext() {
            if (service.size >= MOST_IN_SERVICE) {
                return LIMIT_REACHED;
            }
            int number = nextLine();
            if (!hasLine(number)) {
                return NOT_FOUND;
            }
            Line line = lines[number];
            line.stage = IN_SERVICE;
            line.taken++;
            if (!line.ofLevel) {
                line.lit = false;
                line.longestWait = Math.max(line.longestWait, time - line.litAt);
            }
            service.insert(service.size, number);
            turnInputs(number);
            return number;
        }

        int endService() {
            int number = service.get(service.size - 1);
            if (!hasLine(number)) {
                return NOT_POSSIBLE;
            }
            service.remove(service.size - 1);
            lines[number].stage = WAITING;
            lines[number].dueAt = time + late;
            queueAcknowledge(number);
            acknowledgeDue();
            return number;
        }

        int passTicks(int ticks) {
            if (ticks < 1 || ticks > MOST_TICKS) {
                return INVALID_ARGUMENT;
            }
            if (time + ticks > LAST_TIME) {
                return LIMIT_REACHED;
            }
            time += ticks;
            return acknowledgeDue();
        }

        /** Puts the line behind all whose acknowledges come no later. */
        private void queueAcknowledge(int number) {
            int dueAt = lines[number].dueAt;
            int place = waiting.size;
            for (int k = waiting.size - 1; k >= 0; k--) {
                int other = waiting.get(k);
                if (hasLine(other) && lines[other].dueAt > dueAt) {
                    place = k;
                }
            }
            waiting.insert(place, number);
        }

        private int acknowledgeDue() {
            int came = 0;
            for (int k = 0; k < MOST_LINES; k++) {
                int number = waiting.get(0);
                if (!hasLine(number) || lines[number].dueAt > time) {
                    break;
                }
                waiting.remove(0);
                lines[number].stage = OPEN;
                came++;
            }
            acknowledges += came;
            return came;
        }

        /** In each turning node on the line's way, puts the input that leads to it behind all. */
        private void turnInputs(int number) {
            int input = number;
            int at = lines[number].node;
            for (int k = 0; k < MOST_NODES && hasNode(at); k++) {
                if (nodes[at].turning) {
                    nodes[at].inputs.moveBehind(input);
                }
                input = NODE_INPUT + at;
                at = nodes[at].on;
            }
        }

        // ---- who is next

        /** The ready line of the highest rank, of several the first one of the tree, or NONE. */
        int nextLine() {
            int best = NONE;
            int lowest = lowestRank();
            for (int k = 0; k < MOST_NODES; k++) {
                walked[k] = 0;
            }
            int at = 0;
            // A step goes through one input or back up from one node, and there are no more.
            for (int step = 0; step < MOST_INPUTS + MOST_NODES && hasNode(at); step++) {
                int input = nodes[at].inputs.get(walked[at]);
                walked[at]++;
                if (input == NONE) {
                    at = nodes[at].on;
                } else if (input >= NODE_INPUT) {
                    at = input - NODE_INPUT;
                } else if (isReady(input, lowest)) {
                    best = input;
                    lowest = lines[input].rank + 1;
                }
            }
            return best;
        }

        /** Takes the line, has it done and acknowledged at once, and its level 0. */
        void passOver(int number) {
            if (hasLine(number)) {
                lines[number].lit = false;
                turnInputs(number);
            }
        }

        /** The lowest rank with which a line can be ready now. */
        private int lowestRank() {
            int last = service.get(service.size - 1);
            return hasLine(last) ? Math.max(threshold, lines[last].rank + 1) : threshold;
        }

        private boolean isReady(int number, int lowest) {
            if (!hasLine(number)) {
                return false;
            }
            Line line = lines[number];
            return line.lit && line.stage == OPEN && line.rank >= lowest && !isMasked(number);
        }

        private boolean isMasked(int number) {
            Line line = lines[number];
            return line.masked || (line.way & maskedNodes) != 0;
        }

        // ---- sets of lines

        int litSet() {
            int set = 0;
            for (int k = 0; k < lineCount; k++) {
                set |= asBit(lines[k].lit) << k;
            }
            return set;
        }

        int readySet() {
            int lowest = lowestRank();
            int set = 0;
            for (int k = 0; k < lineCount; k++) {
                set |= asBit(isReady(k, lowest)) << k;
            }
            return set;
        }

        int stageSet(int stage) {
            int set = 0;
            for (int k = 0; k < lineCount; k++) {
                set |= asBit(lines[k].stage == stage) << k;
            }
            return set;
        }

        int ownMaskSet() {
            int set = 0;
            for (int k = 0; k < lineCount; k++) {
                set |= asBit(lines[k].masked) << k;
            }
            return set;
        }

        int anyMaskSet() {
            int set = 0;
            for (int k = 0; k < lineCount; k++) {
                set |= asBit(isMasked(k)) << k;
            }
            return set;
        }

        /** The lines that have the node on their way. */
        private int linesBelow(int node) {
            int set = 0;
            for (int k = 0; k < lineCount; k++) {
                set |= (lines[k].way >> node & 1) << k;
            }
            return set;
        }

        private int edgeLineSet() {
            int set = 0;
            for (int k = 0; k < lineCount; k++) {
                set |= asBit(!lines[k].ofLevel) << k;
            }
            return set;
        }

        // ---- what is told

        int tellLine(int number, int what) {
            if (!hasLine(number)) {
                return INVALID_ARGUMENT;
            }
            Line line = lines[number];
            switch (what) {
                case 0:
                    return line.node;
                case 1:
                    return line.rank;
                case 2:
                    return asBit(line.ofLevel);
                case 3:
                    return asBit(line.lit);
                case 4:
                    return line.stage;
                case 5:
                    return asBit(line.masked);
                case 6:
                    return asBit(isReady(number, lowestRank()));
                case 7:
                    return line.edges;
                case 8:
                    return line.lost;
                case 9:
                    return line.taken;
                case 10:
                    return line.ofLevel || line.taken == 0 ? NOT_FOUND : line.longestWait;
                case 11:
                    return line.stage == WAITING ? line.dueAt - time : NOT_FOUND;
                default:
                    return INVALID_ARGUMENT;
            }
        }

        int tellNode(int number, int what) {
            if (!hasNode(number)) {
                return INVALID_ARGUMENT;
            }
            Node node = nodes[number];
            switch (what) {
                case 0:
                    return node.on == NONE ? NOT_FOUND : node.on;
                case 1:
                    return asBit(node.turning);
                case 2:
                    return node.inputs.size;
                case 3:
                    return maskedNodes >> number & 1;
                case 4:
                    return Integer.bitCount(linesBelow(number));
                case 5:
                    return linesBelow(number) & litSet();
                default:
                    return INVALID_ARGUMENT;
            }
        }

        int tellInput(int number, int index) {
            if (!hasNode(number) || index < 0) {
                return INVALID_ARGUMENT;
            }
            int input = nodes[number].inputs.get(index);
            return input == NONE ? NOT_FOUND : input;
        }

        int tellService(int index) {
            if (index < 0) {
                return INVALID_ARGUMENT;
            }
            int number = service.get(service.size - 1 - index);
            return number == NONE ? NOT_FOUND : number;
        }

        int tellWaiting(int index) {
            if (index < 0) {
                return INVALID_ARGUMENT;
            }
            int number = waiting.get(index);
            return number == NONE ? NOT_FOUND : number;
        }

        int tellNumber(int what) {
            switch (what) {
                case 0:
                    return nodeCount;
                case 1:
                    return lineCount;
                case 2:
                    return time;
                case 3:
                    return allEdges();
                case 4:
                    return allLost();
                case 5:
                    return Integer.bitCount(litSet() & edgeLineSet());
                case 6:
                    return allTaken(false);
                case 7:
                    return allTaken(true);
                case 8:
                    return threshold;
                case 9:
                    return late;
                case 10:
                    return acknowledges;
                default:
                    return INVALID_ARGUMENT;
            }
        }

        private int allEdges() {
            int sum = 0;
            for (int k = 0; k < lineCount; k++) {
                sum += lines[k].edges;
            }
            return sum;
        }

        private int allLost() {
            int sum = 0;
            for (int k = 0; k < lineCount; k++) {
                sum += lines[k].lost;
            }
            return sum;
        }

        private int allTaken(boolean ofLevel) {
            int sum = 0;
            for (int k = 0; k < lineCount; k++) {
                if (lines[k].ofLevel == ofLevel) {
                    sum += lines[k].taken;
                }
            }
            return sum;
        }
    }

    /** The latest states of a board, and behind them the one that a call may have changed. */
    private static final class History {
        private final Board[] states;
        private int size;

        History() {
            states = new Board[MOST_STATES + 1];
            for (int k = 0; k <= MOST_STATES; k++) {
                states[k] = new Board();
            }
        }

        void prepare(Board board) {
            if (size >= 0 && size < states.length) {
                states[size].copyFrom(board);
            }
        }

        /** Keeps what was prepared if the answer is no error, and gives the answer. */
        int close(int answer) {
            if (answer >= 0) {
                size++;
                if (size > MOST_STATES) {
                    dropOldest();
                }
            }
            return answer;
        }

        int restore(Board board) {
            if (size < 1 || size > states.length) {
                return NOT_POSSIBLE;
            }
            size--;
            board.copyFrom(states[size]);
            return size;
        }

        private void dropOldest() {
            Board oldest = states[0];
            for (int k = 0; k < MOST_STATES; k++) {
                states[k] = states[k + 1];
            }
            states[MOST_STATES] = oldest;
            size--;
        }
    }

    /** The text, and the event of it that was read last. */
    private static final class EventText {
        private final char[] signs;
        private int length;

        /** Where the event that was read last starts, and behind what of it was read. */
        private int start;
        private int end;
        private int first;
        private int second;

        /** Why the last run stopped at start, or NO_FAULT. */
        private int reason;

        EventText() {
            signs = new char[MOST_SIGNS];
        }

        int append(int character) {
            if (character < LOWEST_SIGN || character > HIGHEST_SIGN) {
                return INVALID_ARGUMENT;
            }
            if (length >= MOST_SIGNS) {
                return LIMIT_REACHED;
            }
            signs[length] = (char) character;
            length++;
            return length;
        }

        int makeEmpty() {
            int before = length;
            length = 0;
            return before;
        }

        /** Does the events on the board up to the first fault, and gives how many were done. */
        int runOn(Board board) {
            reason = NO_FAULT;
            end = 0;
            int events = 0;
            for (int k = 0; k < MOST_SIGNS && end < length; k++) {
                start = end;
                reason = readEvent() ? reasonOf(answerOf(board)) : WRONG_FORM;
                if (reason != NO_FAULT) {
                    break;
                }
                events++;
            }
            return events;
        }

        /** The answer of the call that the event stands for. */
        private int answerOf(Board board) {
            switch (signAt(start)) {
                case 'e':
                    return board.giveEdge(first);
                case 'l':
                    return board.setLevel(first, second);
                case 'm':
                    return board.setLineMask(first, second);
                case 'x':
                    return board.takeNext();
                case 'd':
                    return board.endService();
                default:
                    return board.passTicks(first);
            }
        }

        private static int reasonOf(int answer) {
            if (answer >= 0) {
                return NO_FAULT;
            }
            return answer == INVALID_ARGUMENT ? WRONG_ARGUMENT : NOT_NOW;
        }

        /** Reads the event at start, and tells if it is of the form. */
        private boolean readEvent() {
            end = start + 1;
            switch (signAt(start)) {
                case 'e':
                case 't':
                    first = readNumber();
                    return first != NONE && readSign(';');
                case 'l':
                case 'm':
                    first = readNumber();
                    if (first == NONE || !readSign(',')) {
                        return false;
                    }
                    second = readNumber();
                    return second != NONE && readSign(';');
                case 'x':
                case 'd':
                    return readSign(';');
                default:
                    return false;
            }
        }

        private int readNumber() {
            int digit = digitAt(end);
            if (digit == NONE) {
                return NONE;
            }
            end++;
            int low = digitAt(end);
            if (low == NONE) {
                return digit;
            }
            end++;
            return 10 * digit + low;
        }

        private boolean readSign(char sign) {
            boolean is = signAt(end) == sign;
            end++;
            return is;
        }

        private int digitAt(int place) {
            char sign = signAt(place);
            return sign >= '0' && sign <= '9' ? sign - '0' : NONE;
        }

        private char signAt(int place) {
            return place >= 0 && place < length ? signs[place] : (char) 0;
        }
    }
}
