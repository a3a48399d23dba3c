import java.util.ArrayDeque;
import java.util.ArrayList;
import java.util.Comparator;
import java.util.Deque;
import java.util.List;
import java.util.regex.Matcher;
import java.util.regex.Pattern;

/**
 * The document once more, written in another way: with lists that are sorted anew at each question,
 * ticks that go by one after the other, and a log of all edges and takings. ModelTests compares the
 * program with it.
 */
final class Model {
    static final int INVALID = -1;
    static final int NOT_POSSIBLE = -2;
    static final int LIMIT = -3;
    static final int NOT_FOUND = -4;

    private static final Pattern EVENT =
            Pattern.compile("([et])(\\d{1,2});|([lm])(\\d{1,2}),(\\d{1,2});|([xd]);");

    private static final class Node {
        final int parent;
        final boolean turning;
        boolean masked;
        final List<Integer> inputs = new ArrayList<>();

        Node(int parent, boolean turning) {
            this.parent = parent;
            this.turning = turning;
        }

        Node copy() {
            Node node = new Node(parent, turning);
            node.masked = masked;
            node.inputs.addAll(inputs);
            return node;
        }
    }

    private static final class Line {
        final int node;
        final int rank;
        final boolean ofLevel;
        boolean lit;
        boolean masked;
        int since;
        int lost;
        int edges;
        final List<Integer> waits = new ArrayList<>();

        Line(int node, int rank, boolean ofLevel) {
            this.node = node;
            this.rank = rank;
            this.ofLevel = ofLevel;
        }

        Line copy() {
            Line line = new Line(node, rank, ofLevel);
            line.lit = lit;
            line.masked = masked;
            line.since = since;
            line.lost = lost;
            line.edges = edges;
            line.waits.addAll(waits);
            return line;
        }
    }

    private record Acknowledge(int line, int due) {}

    private static final class State {
        final List<Node> nodes = new ArrayList<>();
        final List<Line> lines = new ArrayList<>();
        final List<Integer> service = new ArrayList<>();
        final List<Acknowledge> waiting = new ArrayList<>();
        int time;
        int threshold;
        int late = 3;
        int came;

        State copy() {
            State state = new State();
            nodes.forEach(node -> state.nodes.add(node.copy()));
            lines.forEach(line -> state.lines.add(line.copy()));
            state.service.addAll(service);
            state.waiting.addAll(waiting);
            state.time = time;
            state.threshold = threshold;
            state.late = late;
            state.came = came;
            return state;
        }

        boolean noNode(int node) {
            return node < 0 || node >= nodes.size();
        }

        boolean noLine(int line) {
            return line < 0 || line >= lines.size();
        }

        List<Integer> way(int line) {
            List<Integer> way = new ArrayList<>();
            for (int at = lines.get(line).node; at != -1; at = nodes.get(at).parent) {
                way.add(at);
            }
            return way;
        }

        List<Integer> treeOrder(int node) {
            List<Integer> order = new ArrayList<>();
            for (int input : nodes.get(node).inputs) {
                if (input >= 100) {
                    order.addAll(treeOrder(input - 100));
                } else {
                    order.add(input);
                }
            }
            return order;
        }

        int stage(int line) {
            if (service.contains(line)) {
                return 1;
            }
            return waiting.stream().anyMatch(a -> a.line == line) ? 2 : 0;
        }

        boolean behindMask(int line) {
            return lines.get(line).masked
                    || way(line).stream().anyMatch(node -> nodes.get(node).masked);
        }

        boolean ready(int line) {
            Line it = lines.get(line);
            boolean above =
                    service.isEmpty() || it.rank > lines.get(service.get(service.size() - 1)).rank;
            return it.lit && stage(line) == 0 && !behindMask(line) && it.rank >= threshold && above;
        }

        int next() {
            return treeOrder(0).stream()
                    .filter(this::ready)
                    .min(Comparator.comparingInt(line -> -lines.get(line).rank))
                    .orElse(NOT_FOUND);
        }

        List<Acknowledge> waitingInOrder() {
            List<Acknowledge> sorted = new ArrayList<>(waiting);
            sorted.sort(Comparator.comparingInt(Acknowledge::due));
            return sorted;
        }

        int setOf(java.util.function.IntPredicate is) {
            int set = 0;
            for (int k = 0; k < lines.size(); k++) {
                set |= is.test(k) ? 1 << k : 0;
            }
            return set;
        }

        int node(int on, int turning) {
            if (noNode(on) || turning < 0 || turning > 1) {
                return INVALID;
            }
            if (nodes.size() == 6) {
                return LIMIT;
            }
            nodes.get(on).inputs.add(100 + nodes.size());
            nodes.add(new Node(on, turning == 1));
            return nodes.size() - 1;
        }

        int line(int on, int rank, int level) {
            if (noNode(on) || rank < 0 || rank > 7 || level < 0 || level > 1) {
                return INVALID;
            }
            if (lines.size() == 16) {
                return LIMIT;
            }
            nodes.get(on).inputs.add(lines.size());
            lines.add(new Line(on, rank, level == 1));
            return lines.size() - 1;
        }

        int mask(int line, int is) {
            if (noLine(line) || is < 0 || is > 1) {
                return INVALID;
            }
            if (lines.get(line).masked == (is == 1)) {
                return NOT_POSSIBLE;
            }
            lines.get(line).masked = is == 1;
            return (int) lines.stream().filter(it -> it.masked).count();
        }

        int maskNode(int node, int is) {
            if (noNode(node) || is < 0 || is > 1) {
                return INVALID;
            }
            if (nodes.get(node).masked == (is == 1)) {
                return NOT_POSSIBLE;
            }
            nodes.get(node).masked = is == 1;
            return treeOrder(node).size();
        }

        int threshold(int rank) {
            if (rank < 0 || rank > 8) {
                return INVALID;
            }
            int was = threshold;
            threshold = rank;
            return was;
        }

        int late(int ticks) {
            if (ticks < 0 || ticks > 50) {
                return INVALID;
            }
            int was = late;
            late = ticks;
            return was;
        }

        int edge(int line) {
            if (noLine(line)) {
                return INVALID;
            }
            Line it = lines.get(line);
            if (it.ofLevel) {
                return NOT_POSSIBLE;
            }
            it.edges++;
            if (it.lit) {
                it.lost++;
                return 0;
            }
            it.since = time;
            it.lit = true;
            return 1;
        }

        int level(int line, int level) {
            if (noLine(line) || level < 0 || level > 1) {
                return INVALID;
            }
            Line it = lines.get(line);
            if (!it.ofLevel || (it.lit ? 1 : 0) == level) {
                return NOT_POSSIBLE;
            }
            it.lit = !it.lit;
            return (int) lines.stream().filter(other -> other.lit).count();
        }

        int take() {
            if (service.size() == 4) {
                return LIMIT;
            }
            int next = next();
            if (next == NOT_FOUND) {
                return NOT_FOUND;
            }
            Line it = lines.get(next);
            it.waits.add(time - it.since);
            it.lit = it.lit && it.ofLevel;
            service.add(next);
            Integer input = next;
            for (int node : way(next)) {
                Node at = nodes.get(node);
                if (at.turning) {
                    at.inputs.remove(input);
                    at.inputs.add(input);
                }
                input = 100 + node;
            }
            return next;
        }

        int done() {
            if (service.isEmpty()) {
                return NOT_POSSIBLE;
            }
            int line = service.remove(service.size() - 1);
            if (late == 0) {
                came++;
            } else {
                waiting.add(new Acknowledge(line, time + late));
            }
            return line;
        }

        int tick(int ticks) {
            if (ticks < 1 || ticks > 99) {
                return INVALID;
            }
            if (time + ticks > 50000) {
                return LIMIT;
            }
            int before = came;
            for (int k = 0; k < ticks; k++) {
                time++;
                int all = waiting.size();
                waiting.removeIf(acknowledge -> acknowledge.due == time);
                came += all - waiting.size();
            }
            return came - before;
        }

        int event(Matcher event) {
            if (event.group(1) != null) {
                int number = Integer.parseInt(event.group(2));
                return event.group(1).equals("e") ? edge(number) : tick(number);
            }
            if (event.group(3) != null) {
                int line = Integer.parseInt(event.group(4));
                int is = Integer.parseInt(event.group(5));
                return event.group(3).equals("l") ? level(line, is) : mask(line, is);
            }
            return event.group(6).equals("x") ? take() : done();
        }
    }

    private State state = new State();
    private final Deque<State> history = new ArrayDeque<>();
    private String text = "";

    Model() {
        state.nodes.add(new Node(-1, false));
    }

    private int change(java.util.function.ToIntFunction<State> call) {
        State after = state.copy();
        int answer = call.applyAsInt(after);
        if (answer >= 0) {
            history.addLast(state);
            state = after;
            if (history.size() == 5) {
                history.removeFirst();
            }
        }
        return answer;
    }

    int node(int on, int turning) {
        return change(s -> s.node(on, turning));
    }

    int line(int on, int rank, int level) {
        return change(s -> s.line(on, rank, level));
    }

    int mask(int line, int is) {
        return change(s -> s.mask(line, is));
    }

    int maskNode(int node, int is) {
        return change(s -> s.maskNode(node, is));
    }

    int threshold(int rank) {
        return change(s -> s.threshold(rank));
    }

    int late(int ticks) {
        return change(s -> s.late(ticks));
    }

    int edge(int line) {
        return change(s -> s.edge(line));
    }

    int level(int line, int level) {
        return change(s -> s.level(line, level));
    }

    int take() {
        return change(State::take);
    }

    int done() {
        return change(State::done);
    }

    int tick(int ticks) {
        return change(s -> s.tick(ticks));
    }

    int lineOf(int line, int what) {
        if (state.noLine(line) || what < 0 || what > 11) {
            return INVALID;
        }
        Line it = state.lines.get(line);
        return switch (what) {
            case 0 -> it.node;
            case 1 -> it.rank;
            case 2 -> it.ofLevel ? 1 : 0;
            case 3 -> it.lit ? 1 : 0;
            case 4 -> state.stage(line);
            case 5 -> it.masked ? 1 : 0;
            case 6 -> state.ready(line) ? 1 : 0;
            case 7 -> it.edges;
            case 8 -> it.lost;
            case 9 -> it.waits.size();
            case 10 -> it.ofLevel
                    ? NOT_FOUND
                    : it.waits.stream().mapToInt(w -> w).max().orElse(NOT_FOUND);
            default -> state.waiting.stream()
                    .filter(a -> a.line == line)
                    .mapToInt(a -> a.due - state.time)
                    .findFirst()
                    .orElse(NOT_FOUND);
        };
    }

    int nodeOf(int node, int what) {
        if (state.noNode(node) || what < 0 || what > 5) {
            return INVALID;
        }
        Node it = state.nodes.get(node);
        return switch (what) {
            case 0 -> node == 0 ? NOT_FOUND : it.parent;
            case 1 -> it.turning ? 1 : 0;
            case 2 -> it.inputs.size();
            case 3 -> it.masked ? 1 : 0;
            case 4 -> state.treeOrder(node).size();
            default -> state.setOf(k -> state.way(k).contains(node) && state.lines.get(k).lit);
        };
    }

    int inputAt(int node, int index) {
        return state.noNode(node) ? INVALID : at(state.nodes.get(node).inputs, index);
    }

    private static int at(List<Integer> list, int index) {
        if (index < 0) {
            return INVALID;
        }
        return index < list.size() ? list.get(index) : NOT_FOUND;
    }

    int next() {
        return state.next();
    }

    int orderAt(int index) {
        State sandbox = state.copy();
        sandbox.late = 0;
        List<Integer> order = new ArrayList<>();
        // Room for one more in service is made below, where it is of no weight for what is ready.
        while (sandbox.service.size() > 3) {
            sandbox.waiting.add(new Acknowledge(sandbox.service.remove(0), 99999));
        }
        for (int line = sandbox.take(); line >= 0; line = sandbox.take()) {
            order.add(line);
            sandbox.lines.get(line).lit = false;
            sandbox.done();
        }
        return at(order, index);
    }

    int serviceAt(int index) {
        List<Integer> lastAhead = new ArrayList<>();
        state.service.forEach(line -> lastAhead.add(0, line));
        return at(lastAhead, index);
    }

    int waitingAt(int index) {
        List<Integer> lines = new ArrayList<>();
        state.waitingInOrder().forEach(acknowledge -> lines.add(acknowledge.line));
        return at(lines, index);
    }

    int lines(int what) {
        return switch (what) {
            case 0 -> state.setOf(k -> state.lines.get(k).lit);
            case 1 -> state.setOf(state::ready);
            case 2 -> state.setOf(k -> state.stage(k) == 1);
            case 3 -> state.setOf(k -> state.stage(k) == 2);
            case 4 -> state.setOf(k -> state.lines.get(k).masked);
            case 5 -> state.setOf(state::behindMask);
            default -> INVALID;
        };
    }

    int count(int what) {
        return switch (what) {
            case 0 -> state.nodes.size();
            case 1 -> state.lines.size();
            case 2 -> state.time;
            case 3 -> state.lines.stream().mapToInt(it -> it.edges).sum();
            case 4 -> state.lines.stream().mapToInt(it -> it.lost).sum();
            case 5 -> (int) state.lines.stream().filter(it -> it.lit && !it.ofLevel).count();
            case 6 -> taken(false);
            case 7 -> taken(true);
            case 8 -> state.threshold;
            case 9 -> state.late;
            case 10 -> state.came;
            case 11 -> history.size();
            case 12 -> text.length();
            default -> INVALID;
        };
    }

    private int taken(boolean ofLevel) {
        return state.lines.stream()
                .filter(it -> it.ofLevel == ofLevel)
                .mapToInt(it -> it.waits.size())
                .sum();
    }

    int undo() {
        if (history.isEmpty()) {
            return NOT_POSSIBLE;
        }
        state = history.removeLast();
        return history.size();
    }

    int type(int character) {
        if (character < 32 || character > 126) {
            return INVALID;
        }
        if (text.length() == 60) {
            return LIMIT;
        }
        text += (char) character;
        return text.length();
    }

    int clearText() {
        int length = text.length();
        text = "";
        return length;
    }

    /** The position and the reason of the fault, or null; the events are done on the state. */
    private int[] faultOn(State on) {
        Matcher event = EVENT.matcher(text);
        int place = 0;
        while (place < text.length()) {
            event.region(place, text.length());
            if (!event.lookingAt()) {
                return new int[] {place, 1};
            }
            int answer = on.event(event);
            if (answer < 0) {
                return new int[] {place, answer == INVALID ? 2 : 3};
            }
            place = event.end();
        }
        return null;
    }

    int fault(int what) {
        if (what < 0 || what > 1) {
            return INVALID;
        }
        int[] fault = faultOn(state.copy());
        return fault == null ? NOT_FOUND : fault[what];
    }

    int play() {
        if (faultOn(state.copy()) != null) {
            return NOT_POSSIBLE;
        }
        return change(
                s -> {
                    faultOn(s);
                    return (int) text.chars().filter(c -> c == ';').count();
                });
    }
}
