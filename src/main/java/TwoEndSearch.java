import java.util.Arrays;

/**
 * Shortest rows of moves from one state to another one, searched from both ends; in two measures;
 * how many such rows there are, the first one of them, how far states lie.
 *
 * <p>A state is held in one int: the label of place p stands in the three bits from 3 * p on.
 */
public final class TwoEndSearch {
    private static final int MOST_PLACES = 8;
    private static final int MOST_MOVES = 6;
    /** Of eight places: a round of three beside a round of five. */
    private static final int MOST_ORDER = 15;
    private static final int LABEL_BITS = 3;
    private static final int LABEL_MASK = 7;
    private static final int TALLY_BITS = 4;
    private static final int DIGIT_BITS = 3;
    private static final int DIGIT_MASK = 7;
    private static final int END_DIGIT = 7;
    private static final int LONG_DIGITS = 21;
    private static final int INT_BITS = 32;
    private static final int ONCE = 0;
    private static final int POWERS = 1;
    private static final int NONE = -1;
    private static final int REFUSED = -2;
    private static final int UNKNOWN = -1;
    /** An odd number near 2^32 over the golden ratio: its products differ in their high bits. */
    private static final int SCATTER = 0x9E3779B1;

    private final int places;
    private final Moves moves;
    private int start;
    private int goal;
    /** Has all rows that a call needs from the beginning on: no call makes any. */
    private final Search search;

    public TwoEndSearch(int places) {
        this.places = Math.max(1, Math.min(MOST_PLACES, places));
        moves = new Moves(this.places);
        start = firstState(this.places);
        goal = start;
        search = new Search(this.places, moves);
    }

    public int move() {
        int made = moves.add();
        if (made != NONE) {
            forgetAll();
        }
        return made;
    }

    public boolean cycle(int move, int from, int to) {
        boolean done = moves.lengthen(move, from, to);
        if (done) {
            forgetAll();
        }
        return done;
    }

    public int order(int move) {
        return moves.has(move) ? moves.orderOf(move) : 0;
    }

    public boolean label(boolean goal, int place, int label) {
        if (place < 0 || place >= places || label < 0 || label > LABEL_MASK) {
            return false;
        }
        if (goal) {
            this.goal = labelled(this.goal, place, label);
            forgetFound();
        } else {
            start = labelled(start, place, label);
            forgetAll();
        }
        return true;
    }

    public int run(int measure, int most) {
        if (!isMeasure(measure) || most < 0) {
            return REFUSED;
        }
        return begunSearch().findRow(measure, most, goal);
    }

    public int step(int k, boolean times) {
        if (k < 0 || k >= search.length) {
            return NONE;
        }
        int taken = search.row[k];
        return times ? taken % MOST_ORDER : taken / MOST_ORDER;
    }

    public long ways() {
        return search.ways;
    }

    public int spread(int measure, int steps) {
        if (!isMeasure(measure) || steps < 0) {
            return NONE;
        }
        Ball ahead = begunSearch().ahead(measure);
        ahead.growTo(steps);
        return ahead.sizeOfLayer(steps);
    }

    public int deepest(int measure) {
        if (!isMeasure(measure)) {
            return NONE;
        }
        Ball ahead = begunSearch().ahead(measure);
        ahead.growWhole();
        return ahead.depth;
    }

    public boolean replay(long row) {
        if (row < 0) {
            return false;
        }
        int state = start;
        long rest = row;
        for (int digits = 0; digits < LONG_DIGITS; digits++) {
            int digit = (int) (rest & DIGIT_MASK);
            rest >>>= DIGIT_BITS;
            if (digit == END_DIGIT) {
                return rest == 0 && state == goal;
            }
            if (!moves.has(digit)) {
                return false;
            }
            state = moves.bring(digit, state);
        }
        return false;
    }

    public void clear() {
        moves.dropAll();
        start = firstState(places);
        goal = start;
        forgetAll();
    }

    private Search begunSearch() {
        search.begin(start);
        return search;
    }

    private void forgetAll() {
        search.begun = false;
        search.forgetRow();
    }

    /** Another goal leaves all that is known of how far states lie from THE START. */
    private void forgetFound() {
        search.forgetRow();
    }

    private static boolean isMeasure(int measure) {
        return measure == ONCE || measure == POWERS;
    }

    private static int firstState(int places) {
        int state = 0;
        for (int place = 0; place < places; place++) {
            state |= place << (LABEL_BITS * place);
        }
        return state;
    }

    private static int labelled(int state, int place, int label) {
        int shift = LABEL_BITS * place;
        return (state & ~(LABEL_MASK << shift)) | (label << shift);
    }

    /** How often each label is there, four bits for each: moves never change it. */
    private static int tally(int state, int places) {
        int tally = 0;
        for (int place = 0; place < places; place++) {
            int label = (state >>> (LABEL_BITS * place)) & LABEL_MASK;
            tally += 1 << (TALLY_BITS * label);
        }
        return tally;
    }

    private static int arrangements(int places) {
        int product = 1;
        for (int factor = 2; factor <= places; factor++) {
            product *= factor;
        }
        return product;
    }

    /**
     * The moves. A WAY is a number below 2 * MOST_MOVES: a move's own number for doing it, that
     * number and MOST_MOVES for undoing it.
     */
    private static final class Moves {
        private final int places;
        private final int[][] targets = new int[2 * MOST_MOVES][MOST_PLACES];
        private final int[] orders = new int[MOST_MOVES];
        private int count;

        Moves(int places) {
            this.places = places;
        }

        boolean has(int move) {
            return move >= 0 && move < count;
        }

        int add() {
            if (count >= MOST_MOVES) {
                return NONE;
            }
            int made = count;
            for (int place = 0; place < MOST_PLACES; place++) {
                aim(made, place, place);
            }
            orders[made] = 1;
            count++;
            return made;
        }

        boolean lengthen(int move, int from, int to) {
            if (!has(move) || !isPlace(from) || !isPlace(to) || from == to) {
                return false;
            }
            if (targets[move][to] != to) {
                return false;
            }
            int behind = targets[move][from];
            aim(move, from, to);
            aim(move, to, behind);
            orders[move] = countOrder(move);
            return true;
        }

        int orderOf(int move) {
            return orders[move];
        }

        int mostTimes(int measure, int move) {
            return measure == ONCE ? 1 : orders[move] - 1;
        }

        int bring(int way, int state) {
            int[] target = targets[way];
            int brought = 0;
            int rest = state;
            for (int place = 0; place < places; place++) {
                brought |= (rest & LABEL_MASK) << (LABEL_BITS * target[place]);
                rest >>>= LABEL_BITS;
            }
            return brought;
        }

        void dropAll() {
            count = 0;
        }

        private boolean isPlace(int place) {
            return place >= 0 && place < places;
        }

        private void aim(int move, int from, int to) {
            targets[move][from] = to;
            targets[move + MOST_MOVES][to] = from;
        }

        private int countOrder(int move) {
            int first = firstState(places);
            int state = first;
            for (int times = 1; times < MOST_ORDER; times++) {
                state = bring(move, state);
                if (state == first) {
                    return times;
                }
            }
            return MOST_ORDER;
        }
    }

    /**
     * The states that have been come upon, numbered from 0 on, and where each way leads from them.
     * All of them have the labels of THE START in some order, so there is room for each.
     */
    private static final class Graph {
        private final Moves moves;
        private final int[] states;
        /** A hash table, each slot with a state's number + 1, or 0 when it is free. */
        private final int[] slots;
        private final int hashShift;
        private final int[][] links;
        private int count;

        Graph(int capacity, Moves moves) {
            this.moves = moves;
            states = new int[capacity];
            links = new int[2 * MOST_MOVES][capacity];
            int bits = 1;
            // A third of the slots stays free, which keeps the looking for one short.
            while (bits < 30 && (1 << bits) < capacity + capacity / 2) {
                bits++;
            }
            slots = new int[1 << bits];
            hashShift = INT_BITS - bits;
        }

        /** From the newest state back: what one has stepped over in the table is then still there. */
        void dropAll() {
            for (int at = count - 1; at >= 0; at--) {
                slots[slotOf(states[at])] = 0;
            }
            count = 0;
        }

        int enter(int state) {
            int slot = slotOf(state);
            if (slots[slot] != 0) {
                return slots[slot] - 1;
            }
            // Never so, but without the test a mistake elsewhere would become a stray index here.
            if (count >= states.length) {
                return 0;
            }
            states[count] = state;
            for (int move = 0; move < moves.count; move++) {
                links[move][count] = UNKNOWN;
                links[move + MOST_MOVES][count] = UNKNOWN;
            }
            count++;
            slots[slot] = count;
            return count - 1;
        }

        int follow(int way, int from) {
            int known = links[way][from];
            if (known != UNKNOWN) {
                return known;
            }
            int to = enter(moves.bring(way, states[from]));
            int undoing = way < MOST_MOVES ? way + MOST_MOVES : way - MOST_MOVES;
            links[way][from] = to;
            links[undoing][to] = from;
            return to;
        }

        /** The slot that has the state, or else the free one that it would get. */
        private int slotOf(int state) {
            int slot = (state * SCATTER) >>> hashShift;
            for (int tried = 0; tried < slots.length; tried++) {
                int held = slots[slot];
                if (held == 0 || states[held - 1] == state) {
                    return slot;
                }
                slot = (slot + 1) & (slots.length - 1);
            }
            return slot;
        }
    }

    /**
     * The states around one of them, the root, layer by layer: how many steps they lie from it
     * (or, backward, it from them), and in how many ways one comes there by so few.
     */
    private static final class Ball {
        private final Moves moves;
        private final Graph graph;
        private final int firstWay;
        private final int[] far;
        private final long[] ways;
        /** The states of the ball, the nearer ones first. */
        private final int[] reached;
        private int size;
        private int layerStart;
        private int depth;
        private int measure;
        private boolean complete;

        Ball(int capacity, Graph graph, boolean backward) {
            this.graph = graph;
            moves = graph.moves;
            firstWay = backward ? MOST_MOVES : 0;
            far = new int[capacity];
            Arrays.fill(far, UNKNOWN);
            ways = new long[capacity];
            reached = new int[capacity];
        }

        void begin(int root, int measure) {
            for (int at = 0; at < size; at++) {
                far[reached[at]] = UNKNOWN;
            }
            this.measure = measure;
            size = 0;
            layerStart = 0;
            depth = 0;
            complete = false;
            take(root, 0);
            ways[root] = 1;
        }

        void take(int state, int distance) {
            far[state] = distance;
            ways[state] = 0;
            reached[size] = state;
            size++;
        }

        /** Adds the next layer; false when there is none. */
        boolean grow() {
            int end = size;
            for (int at = layerStart; at < end && !complete; at++) {
                for (int move = 0; move < moves.count; move++) {
                    reachFrom(reached[at], move);
                }
            }
            complete = size == end;
            if (!complete) {
                layerStart = end;
                depth++;
            }
            return !complete;
        }

        void growTo(int distance) {
            for (int tried = 0; tried < far.length && depth < distance && !complete; tried++) {
                grow();
            }
        }

        /** No state lies as many steps away as there are states. */
        void growWhole() {
            growTo(far.length);
        }

        int sizeOfLayer(int distance) {
            return distance > depth ? 0 : countWithin(distance) - countWithin(distance - 1);
        }

        int sizeOfLastLayer() {
            return size - layerStart;
        }

        boolean lastLayerMeets(Ball other) {
            for (int at = layerStart; at < size; at++) {
                if (other.far[reached[at]] != UNKNOWN) {
                    return true;
                }
            }
            return false;
        }

        private void reachFrom(int from, int move) {
            int mostTimes = moves.mostTimes(measure, move);
            int there = from;
            for (int times = 1; times <= mostTimes; times++) {
                there = graph.follow(firstWay + move, there);
                if (far[there] == UNKNOWN) {
                    take(there, depth + 1);
                }
                if (far[there] == depth + 1) {
                    ways[there] += ways[from];
                }
            }
        }

        /** How many states lie at most so far: reached has them in front. */
        private int countWithin(int distance) {
            int within = 0;
            for (int stride = 1 << 15; stride > 0; stride >>= 1) {
                int last = within + stride - 1;
                if (last < size && far[reached[last]] <= distance) {
                    within += stride;
                }
            }
            return within;
        }
    }

    /** The search: balls around THE START, one for each measure, a ball around THE GOAL, the row found. */
    private static final class Search {
        private final int places;
        private final Moves moves;
        private final Graph graph;
        private final Ball aheadOnce;
        private final Ball aheadPowers;
        private final Ball back;
        /** Each step as its move * MOST_ORDER + how often. */
        private final int[] row;
        private boolean begun;
        private int start;
        private int root;
        private int length = NONE;
        private long ways;

        Search(int places, Moves moves) {
            this.places = places;
            this.moves = moves;
            int capacity = arrangements(places);
            graph = new Graph(capacity, moves);
            aheadOnce = new Ball(capacity, graph, false);
            aheadPowers = new Ball(capacity, graph, false);
            back = new Ball(capacity, graph, true);
            row = new int[capacity];
        }

        void begin(int start) {
            if (begun) {
                return;
            }
            this.start = start;
            graph.dropAll();
            root = graph.enter(start);
            aheadOnce.begin(root, ONCE);
            aheadPowers.begin(root, POWERS);
            begun = true;
        }

        void forgetRow() {
            length = NONE;
            ways = 0;
        }

        Ball ahead(int measure) {
            return measure == ONCE ? aheadOnce : aheadPowers;
        }

        int findRow(int measure, int most, int goal) {
            forgetRow();
            // A goal with other labels would also take up room that the graph does not have.
            if (tally(start, places) != tally(goal, places)) {
                return NONE;
            }
            Ball ahead = ahead(measure);
            back.begin(graph.enter(goal), measure);
            length = meet(ahead, most);
            if (length != NONE) {
                ways = waysThroughMeeting(ahead);
                leadBackToStart(ahead);
                walkLeastRow();
            }
            return length;
        }

        /**
         * Lets the smaller ball grow until the two have a state in common: the number of steps, or
         * NONE. As long as they have none, every row is longer than both depths together.
         */
        private int meet(Ball ahead, int most) {
            if (back.lastLayerMeets(ahead)) {
                int distance = ahead.far[back.reached[0]];
                return distance <= most ? distance : NONE;
            }
            for (int tried = 0; tried < 2 * row.length; tried++) {
                if (ahead.depth + back.depth >= most || ahead.complete) {
                    return NONE;
                }
                boolean aheadGrows = ahead.sizeOfLastLayer() <= back.sizeOfLastLayer();
                Ball growing = aheadGrows ? ahead : back;
                if (!growing.grow()) {
                    return NONE;
                }
                if (growing.lastLayerMeets(aheadGrows ? back : ahead)) {
                    return ahead.depth + back.depth;
                }
            }
            return NONE;
        }

        /** Each shortest row has just one state in the last layer of the ball around THE GOAL. */
        private long waysThroughMeeting(Ball ahead) {
            int distance = length - back.depth;
            long sum = 0;
            for (int at = back.layerStart; at < back.size; at++) {
                int state = back.reached[at];
                if (ahead.far[state] == distance) {
                    sum += ahead.ways[state] * back.ways[state];
                }
            }
            return sum;
        }

        /** Takes into the ball around THE GOAL what lies on shortest rows between it and THE START. */
        private void leadBackToStart(Ball ahead) {
            for (int at = back.layerStart; at < back.size && at < row.length; at++) {
                int state = back.reached[at];
                int distance = length - back.far[state];
                if (distance > 0 && ahead.far[state] == distance) {
                    for (int move = 0; move < moves.count; move++) {
                        leadBackFrom(state, move, ahead);
                    }
                }
            }
        }

        private void leadBackFrom(int state, int move, Ball ahead) {
            int mostTimes = moves.mostTimes(back.measure, move);
            int nearer = ahead.far[state] - 1;
            int before = state;
            for (int times = 1; times <= mostTimes; times++) {
                before = graph.follow(move + MOST_MOVES, before);
                if (ahead.far[before] == nearer && back.far[before] == UNKNOWN) {
                    back.take(before, back.far[state] + 1);
                }
            }
        }

        private void walkLeastRow() {
            int state = root;
            for (int k = 0; k < length && k < row.length; k++) {
                row[k] = leastStep(state, length - k - 1);
                state = afterStep(state, row[k]);
            }
        }

        private int leastStep(int state, int left) {
            for (int move = 0; move < moves.count; move++) {
                int mostTimes = moves.mostTimes(back.measure, move);
                int there = state;
                for (int times = 1; times <= mostTimes; times++) {
                    there = graph.follow(move, there);
                    if (back.far[there] == left) {
                        return move * MOST_ORDER + times;
                    }
                }
            }
            return 0;
        }

        private int afterStep(int state, int taken) {
            int there = state;
            for (int times = 0; times < taken % MOST_ORDER; times++) {
                there = graph.follow(taken / MOST_ORDER, there);
            }
            return there;
        }
    }
}
