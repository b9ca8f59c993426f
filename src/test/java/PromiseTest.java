/** Each promise of the document by itself: ordinary inputs, the edges that it names, wrong inputs. */
public final class PromiseTest {
    private static final int[] STRAY = {Integer.MIN_VALUE, -2, -1, 6, 7, 8, 9, 100, Integer.MAX_VALUE};
    private static int wrong = 0;
    private static int asked = 0;

    private static void due(String what, long got, long want) {
        asked++;
        if (got != want) {
            wrong++;
            System.out.println(what + " answered " + got + ", due is " + want);
        }
    }

    private static void due(String what, boolean got, boolean want) {
        due(what, got ? 1 : 0, want ? 1 : 0);
    }

    public static void main(String[] args) {
        newObject();
        move();
        cycle();
        cycleRefused();
        order();
        label();
        labelRefused();
        run();
        runRefused();
        leastRow();
        leastRowInPowers();
        step();
        ways();
        waysWrapAround();
        foundIsKept();
        foundIsGone();
        spread();
        deepest();
        equalLabels();
        replay();
        replayLongest();
        clear();
        System.out.println(asked + " answers asked, " + wrong + " wrong");
        if (wrong != 0) {
            System.exit(1);
        }
    }

    /** A round: what is at each of the places goes to the next one of them, from the last to the first. */
    private static int round(TwoEndSearch x, int... places) {
        int move = x.move();
        addRound(x, move, places);
        return move;
    }

    private static void addRound(TwoEndSearch x, int move, int... places) {
        for (int i = places.length - 1; i > 0; i--) {
            due("cycle of a round", x.cycle(move, places[0], places[i]), true);
        }
    }

    private static void labels(TwoEndSearch x, boolean goal, int... labels) {
        for (int place = 0; place < labels.length; place++) {
            due("label", x.label(goal, place, labels[place]), true);
        }
    }

    /** Two places that change what they have, and a goal where they have: one step, one way. */
    private static TwoEndSearch withFoundRow() {
        TwoEndSearch x = new TwoEndSearch(3);
        round(x, 0, 1);
        labels(x, true, 1, 0, 2);
        due("run of a swap", x.run(0, 5), 1);
        return x;
    }

    private static void dueFound(String when, TwoEndSearch x) {
        due("ways " + when, x.ways(), 1);
        due("step's move " + when, x.step(0, false), 0);
        due("step's times " + when, x.step(0, true), 1);
        due("step 1 " + when, x.step(1, false), -1);
    }

    private static void dueGone(String when, TwoEndSearch x) {
        due("ways " + when, x.ways(), 0);
        due("step's move " + when, x.step(0, false), -1);
        due("step's times " + when, x.step(0, true), -1);
    }

    private static void duePlaces(int given, int held) {
        TwoEndSearch x = new TwoEndSearch(given);
        x.move();
        due(given + " places: label at the last", x.label(false, held - 1, held - 1), true);
        due(given + " places: label behind the last", x.label(false, held, 0), false);
        due(given + " places: cycle at the last", x.cycle(0, 0, held - 1), held > 1);
        due(given + " places: cycle behind the last", x.cycle(0, 0, held), false);
    }

    private static void newObject() {
        for (int places = 1; places <= 8; places++) {
            duePlaces(places, places);
            TwoEndSearch x = new TwoEndSearch(places);
            due("new: order", x.order(0), 0);
            dueGone("on a new object", x);
            for (int place = 0; place < places; place++) {
                x.label(true, place, place);
                due("new: goal as start", x.run(0, 0), 0);
                x.label(false, place, place);
                due("new: start as goal", x.run(1, 0), 0);
            }
            due("new: deepest", x.deepest(0), 0);
            due("new: deepest of powers", x.deepest(1), 0);
            due("new: first move", x.move(), 0);
        }
        for (int given : new int[] {0, -1, -8, Integer.MIN_VALUE}) {
            duePlaces(given, 1);
        }
        for (int given : new int[] {9, 10, 1000, Integer.MAX_VALUE}) {
            duePlaces(given, 8);
        }
    }

    private static void move() {
        TwoEndSearch x = new TwoEndSearch(4);
        for (int number = 0; number < 6; number++) {
            due("order before move", x.order(number), 0);
            due("move", x.move(), number);
            due("order of a move that leaves everything", x.order(number), 1);
            due("its step once", x.spread(0, 1), 0);
            due("its step in powers", x.spread(1, 1), 0);
        }
        due("run", x.run(0, 0), 0);
        due("seventh move", x.move(), -1);
        due("eighth move", x.move(), -1);
        due("ways behind a refused move", x.ways(), 1);
        due("order of no seventh", x.order(6), 0);
    }

    private static void cycle() {
        TwoEndSearch x = new TwoEndSearch(4);
        x.move();
        due("cycle 0 1", x.cycle(0, 0, 1), true);
        labels(x, true, 1, 0, 2, 3);
        due("two places change", x.replay(070), true);
        due("cycle 0 2", x.cycle(0, 0, 2), true);
        labels(x, true, 1, 2, 0, 3);
        due("from 0 to 2, from 2 to 1, from 1 to 0", x.replay(070), true);
        due("cycle 1 3", x.cycle(0, 1, 3), true);
        labels(x, true, 3, 2, 0, 1);
        due("from 1 to 3, from 3 to 0", x.replay(070), true);

        TwoEndSearch two = new TwoEndSearch(5);
        two.move();
        due("first pair", two.cycle(0, 4, 3), true);
        due("pair beside it", two.cycle(0, 1, 2), true);
        labels(two, true, 0, 2, 1, 4, 3);
        due("two pairs", two.replay(070), true);
    }

    private static void cycleRefused() {
        TwoEndSearch x = new TwoEndSearch(4);
        due("no move at all", x.cycle(0, 0, 1), false);
        x.move();
        x.cycle(0, 0, 1);
        due("to moves already", x.cycle(0, 2, 1), false);
        due("to moves already, from too", x.cycle(0, 0, 1), false);
        due("back again", x.cycle(0, 1, 0), false);
        due("one place, moved", x.cycle(0, 0, 0), false);
        due("one place, left", x.cycle(0, 3, 3), false);
        due("no place to", x.cycle(0, 0, 4), false);
        due("no place from", x.cycle(0, 4, 2), false);
        due("no second move", x.cycle(1, 2, 3), false);
        for (int stray : STRAY) {
            due("move " + stray, x.cycle(stray, 2, 3), false);
            due("from " + stray, x.cycle(0, stray, 3), false);
            due("to " + stray, x.cycle(0, 2, stray), false);
        }
        labels(x, true, 1, 0, 2, 3);
        due("nothing was done", x.replay(070), true);
        due("order as it was", x.order(0), 2);
    }

    private static void order() {
        TwoEndSearch x = new TwoEndSearch(8);
        round(x, 0, 1, 2, 3, 4);
        due("round of 5", x.order(0), 5);
        addRound(x, 0, 5, 6, 7);
        due("rounds of 5 and 3", x.order(0), 15);
        round(x, 0, 1, 2, 3);
        addRound(x, 1, 4, 5);
        due("rounds of 4 and 2", x.order(1), 4);
        round(x, 0, 7, 1, 6, 2, 5, 3, 4);
        due("round of 8", x.order(2), 8);
        round(x, 0, 1, 2, 3, 4);
        addRound(x, 3, 5, 6);
        due("rounds of 5 and 2", x.order(3), 10);
        round(x, 0, 1, 2, 3);
        addRound(x, 4, 4, 5, 6);
        due("rounds of 4 and 3", x.order(4), 12);
        x.move();
        due("leaves everything", x.order(5), 1);
        for (int stray : STRAY) {
            due("order of " + stray, x.order(stray), 0);
        }
        labels(x, false, 0, 0, 0, 0, 0, 0, 0, 0);
        due("equal labels change no order", x.order(0), 15);
    }

    private static void label() {
        TwoEndSearch x = new TwoEndSearch(2);
        x.move();
        labels(x, true, 7, 7);
        due("goal 7 7, start 0 1", x.run(0, 0), -1);
        labels(x, false, 7, 7);
        due("start 7 7 too", x.run(0, 0), 0);
        labels(x, false, 0, 5);
        due("start 0 5", x.run(0, 0), -1);
        labels(x, true, 0, 5);
        due("goal 0 5 too", x.run(0, 0), 0);
        labels(x, true, 5, 0);
        due("goal 5 0", x.run(0, 9), -1);
        x.cycle(0, 0, 1);
        due("goal 5 0, with a swap", x.run(0, 9), 1);
    }

    private static void labelRefused() {
        TwoEndSearch x = withFoundRow();
        for (boolean goal : new boolean[] {false, true}) {
            for (int stray : STRAY) {
                due("place " + stray, x.label(goal, stray, 0), false);
                due("label " + stray, x.label(goal, 2, stray), stray == 6 || stray == 7);
            }
            x.label(goal, 2, 2);
            due("place 3 of 3", x.label(goal, 3, 0), false);
            due("label 8", x.label(goal, 0, 8), false);
            due("label -1", x.label(goal, 0, -1), false);
            due("nothing was done", x.run(0, 1), 1);
        }
    }

    private static void run() {
        TwoEndSearch x = new TwoEndSearch(8);
        round(x, 0, 1, 2, 3, 4, 5, 6, 7);
        labels(x, true, 1, 2, 3, 4, 5, 6, 7, 0);
        due("seven times once", x.run(0, 7), 7);
        due("most of just less", x.run(0, 6), -1);
        due("none with most 0", x.run(0, 0), -1);
        due("most of any size", x.run(0, Integer.MAX_VALUE), 7);
        due("one step in powers", x.run(1, 1), 1);
        due("powers, most 0", x.run(1, 0), -1);
        due("powers, most of any size", x.run(1, Integer.MAX_VALUE), 1);
        labels(x, true, 1, 0, 2, 3, 4, 5, 6, 7);
        due("cannot be come to", x.run(0, Integer.MAX_VALUE), -1);
        due("cannot be come to in powers", x.run(1, Integer.MAX_VALUE), -1);
        labels(x, true, 0, 1, 2, 3, 4, 5, 6, 7);
        due("is there already", x.run(0, 0), 0);
        due("is there already, in powers", x.run(1, 9), 0);
        labels(x, true, 0, 1, 2, 3, 4, 5, 6, 6);
        due("other labels", x.run(0, 99), -1);

        TwoEndSearch other = new TwoEndSearch(8);
        round(other, 0, 1);
        round(other, 0, 1, 2, 3, 4, 5, 6, 7);
        labels(other, true, 1, 1, 2, 3, 4, 5, 6, 6);
        due("other labels of the same sum", other.run(0, 99), -1);
        due("other labels of the same sum, in powers", other.run(1, 99), -1);
        due("as deep as without that search", other.deepest(0), 35);

        TwoEndSearch odd = new TwoEndSearch(4);
        round(odd, 0, 1, 2);
        round(odd, 1, 2, 3);
        labels(odd, true, 1, 0, 2, 3);
        due("same labels, other half of the orders", odd.run(0, 99), -1);
        int half = 0;
        for (int steps = 0; steps <= odd.deepest(0); steps++) {
            half += odd.spread(0, steps);
        }
        due("the whole half", half, 12);
        due("again behind spread", odd.run(0, 99), -1);
        TwoEndSearch two = new TwoEndSearch(4);
        round(two, 0, 1);
        round(two, 2, 3);
        labels(two, true, 1, 0, 3, 2);
        due("two steps, most 1", two.run(0, 1), -1);
        due("two steps, most 2", two.run(0, 2), 2);
    }

    private static void runRefused() {
        TwoEndSearch x = withFoundRow();
        for (int measure : new int[] {Integer.MIN_VALUE, -1, 2, 3, Integer.MAX_VALUE}) {
            due("measure " + measure, x.run(measure, 5), -2);
            dueFound("behind measure " + measure, x);
        }
        for (int most : new int[] {-1, -2, Integer.MIN_VALUE}) {
            due("most " + most, x.run(0, most), -2);
            due("most " + most + " in powers", x.run(1, most), -2);
            dueFound("behind most " + most, x);
        }
        due("both wrong", x.run(2, -1), -2);
        due("none found", x.run(0, 0), -1);
        dueGone("behind a run that found none", x);
    }

    private static void leastRow() {
        TwoEndSearch x = new TwoEndSearch(6);
        round(x, 4, 5);
        round(x, 2, 3);
        round(x, 0, 1);
        round(x, 2, 3);
        labels(x, true, 1, 0, 3, 2, 5, 4);
        due("three swaps", x.run(0, 9), 3);
        for (int k = 0; k < 3; k++) {
            due("least row, step " + k, x.step(k, false), k);
            due("least row, times " + k, x.step(k, true), 1);
        }
        due("six orders of two choices", x.ways(), 12);
    }

    private static void leastRowInPowers() {
        TwoEndSearch x = new TwoEndSearch(8);
        round(x, 0, 1, 2, 3);
        addRound(x, 0, 4, 5);
        labels(x, false, 0, 0, 1, 1, 2, 3, 4, 5);
        labels(x, true, 1, 1, 0, 0, 2, 3, 4, 5);
        due("twice the round", x.run(1, 9), 1);
        due("its times", x.step(0, true), 2);
        labels(x, false, 0, 1, 0, 1, 2, 3, 4, 5);
        labels(x, true, 1, 0, 1, 0, 3, 2, 4, 5);
        due("once or three times", x.run(1, 9), 1);
        due("fewer times are less", x.step(0, true), 1);
        due("both are counted", x.ways(), 2);
        round(x, 4, 5);
        round(x, 0, 1);
        labels(x, false, 2, 2, 2, 2, 0, 1, 4, 5);
        labels(x, true, 2, 2, 2, 2, 1, 0, 4, 5);
        due("a lesser move wins", x.run(1, 9), 1);
        due("move 0", x.step(0, false), 0);
        due("three ways", x.ways(), 3);
    }

    private static void step() {
        TwoEndSearch x = new TwoEndSearch(8);
        due("nothing was ever searched", x.step(0, false), -1);
        round(x, 0, 1, 2, 3, 4);
        addRound(x, 0, 5, 6, 7);
        labels(x, true, 1, 2, 3, 4, 0, 6, 7, 5);
        due("fourteen times once", x.run(0, 14), 14);
        for (int k = 0; k < 14; k++) {
            due("move of " + k, x.step(k, false), 0);
            due("times of " + k, x.step(k, true), 1);
        }
        for (int k : new int[] {14, 15, Integer.MAX_VALUE, -1, Integer.MIN_VALUE}) {
            due("no step " + k, x.step(k, false), -1);
            due("no times " + k, x.step(k, true), -1);
        }
        due("once fourteen times", x.run(1, 14), 1);
        due("its move", x.step(0, false), 0);
        due("its times", x.step(0, true), 14);
        due("no second step", x.step(1, true), -1);
        labels(x, true, 0, 1, 2, 3, 4, 5, 6, 7);
        due("no steps", x.run(0, 3), 0);
        due("no step in an empty row", x.step(0, false), -1);
    }

    private static void ways() {
        TwoEndSearch x = new TwoEndSearch(4);
        due("nothing was ever searched", x.ways(), 0);
        due("empty row", x.run(0, 0), 0);
        due("one empty row", x.ways(), 1);
        round(x, 0, 1, 2, 3);
        round(x, 0, 1, 2, 3);
        labels(x, true, 1, 2, 3, 0);
        due("three steps", x.run(0, 3), 3);
        due("two equal moves are two choices", x.ways(), 8);
        due("one step", x.run(1, 3), 1);
        due("two choices", x.ways(), 2);
        due("a loose end", x.run(0, 2), -1);
        due("no ways", x.ways(), 0);
    }

    /** Each move three times: each row of n steps becomes 3 ^ n rows, which passes 2 ^ 64 from 41 on. */
    private static void waysWrapAround() {
        TwoEndSearch equal = new TwoEndSearch(8);
        for (int move = 0; move < 6; move++) {
            round(equal, 0, 1, 2, 3, 4);
            addRound(equal, move, 5, 6, 7);
        }
        labels(equal, true, 1, 2, 3, 4, 0, 6, 7, 5);
        due("fourteen steps", equal.run(0, 99), 14);
        due("6 ^ 14 ways", equal.ways(), 78364164096L);

        TwoEndSearch few = farApart(1, 1);
        due("very far, most of just less", few.run(0, 43), -1);
        due("very far", few.run(0, 44), 44);
        due("ways of single moves", few.ways(), 8);
        TwoEndSearch many = farApart(3, 3);
        due("as far with more of the same", many.run(0, 44), 44);
        long product = 8;
        for (int k = 0; k < 44; k++) {
            product *= 3;
        }
        due("ways modulo 2 ^ 64", many.ways(), product);

        TwoEndSearch even = farApart(4, 2);
        due("as far with four and two", even.run(0, 44), 44);
        due("a number of ways that 2 ^ 64 divides", even.ways(), 0);
        due("is found all the same", even.step(43, true), 1);
    }

    /** Two moves, copied, by which the goal is 44 steps away: the farthest of a search for such. */
    private static TwoEndSearch farApart(int firsts, int seconds) {
        TwoEndSearch x = new TwoEndSearch(8);
        for (int copies = 0; copies < firsts; copies++) {
            int move = round(x, 6, 7, 2, 4);
            addRound(x, move, 5, 3);
        }
        for (int copies = 0; copies < seconds; copies++) {
            int move = round(x, 6, 0);
            addRound(x, move, 2, 3);
            addRound(x, move, 1, 5);
        }
        labels(x, true, 5, 1, 2, 3, 4, 0, 6, 7);
        return x;
    }

    private static void foundIsKept() {
        TwoEndSearch x = withFoundRow();
        x.spread(0, 3);
        x.spread(1, 3);
        x.deepest(0);
        x.deepest(1);
        x.order(0);
        x.replay(070);
        dueFound("behind calls that only ask", x);
        x.cycle(0, 0, 0);
        x.cycle(0, 0, 1);
        x.cycle(3, 0, 1);
        x.label(false, 3, 0);
        x.label(true, 0, 8);
        x.spread(2, 0);
        x.spread(0, -1);
        x.deepest(-1);
        dueFound("behind refused calls", x);

        TwoEndSearch full = new TwoEndSearch(3);
        round(full, 0, 1);
        for (int move = 1; move < 6; move++) {
            full.move();
        }
        labels(full, true, 1, 0, 2);
        full.run(0, 5);
        due("a seventh", full.move(), -1);
        dueFound("behind a refused move", full);
    }

    private static void foundIsGone() {
        TwoEndSearch x = withFoundRow();
        x.move();
        dueGone("behind move", x);
        x = withFoundRow();
        x.cycle(0, 0, 2);
        dueGone("behind cycle", x);
        x = withFoundRow();
        x.label(false, 0, 0);
        dueGone("behind the start's label, the same", x);
        x = withFoundRow();
        x.label(true, 2, 2);
        dueGone("behind the goal's label, the same", x);
        due("found again", x.run(0, 1), 1);
        dueFound("found again", x);
        x.clear();
        dueGone("behind clear", x);
    }

    private static void spread() {
        TwoEndSearch x = new TwoEndSearch(5);
        due("no moves, no steps", x.spread(0, 0), 1);
        due("no moves, a step", x.spread(0, 1), 0);
        round(x, 0, 1, 2, 3, 4);
        for (int steps = 0; steps < 5; steps++) {
            due("round, " + steps, x.spread(0, steps), 1);
        }
        due("round, 5", x.spread(0, 5), 0);
        due("powers, 0", x.spread(1, 0), 1);
        due("powers, 1", x.spread(1, 1), 4);
        due("powers, 2", x.spread(1, 2), 0);
        round(x, 0, 1);
        int all = 0;
        int allInPowers = 0;
        for (int steps = 40; steps >= 0; steps--) {
            all += x.spread(0, steps);
            allInPowers += x.spread(1, steps);
        }
        due("all orders", all, 120);
        due("all orders in powers", allInPowers, 120);
        due("very far", x.spread(0, Integer.MAX_VALUE), 0);
        due("very far in powers", x.spread(1, Integer.MAX_VALUE), 0);
        for (int stray : new int[] {-1, 2, Integer.MIN_VALUE, Integer.MAX_VALUE}) {
            due("measure " + stray, x.spread(stray, 0), -1);
        }
        due("steps -1", x.spread(0, -1), -1);
        due("least steps", x.spread(1, Integer.MIN_VALUE), -1);
        labels(x, true, 0, 0, 0, 0, 0);
        due("the goal is of no account", x.spread(0, 1), 2);
        labels(x, false, 0, 0, 0, 0, 1);
        due("the start is", x.spread(0, 1), 1);
    }

    private static void deepest() {
        TwoEndSearch x = new TwoEndSearch(7);
        due("no moves", x.deepest(0), 0);
        round(x, 0, 1, 2, 3, 4, 5, 6);
        due("round", x.deepest(0), 6);
        due("round in powers", x.deepest(1), 1);
        x.move();
        due("with a move that leaves everything", x.deepest(0), 6);
        due("with it in powers", x.deepest(1), 1);
        for (int stray : new int[] {-1, 2, Integer.MIN_VALUE, Integer.MAX_VALUE}) {
            due("measure " + stray, x.deepest(stray), -1);
        }
        labels(x, false, 3, 3, 3, 3, 3, 3, 3);
        due("one state alone", x.deepest(0), 0);
        labels(x, false, 3, 3, 3, 3, 3, 3, 2);
        due("seven states", x.deepest(0), 6);
        due("seven states in powers", x.deepest(1), 1);
    }

    private static void equalLabels() {
        TwoEndSearch x = new TwoEndSearch(8);
        round(x, 0, 1, 2, 3, 4, 5, 6, 7);
        labels(x, false, 0, 1, 0, 1, 0, 1, 0, 1);
        labels(x, true, 1, 0, 1, 0, 1, 0, 1, 0);
        due("one step", x.run(0, 9), 1);
        due("one way", x.ways(), 1);
        due("one step of powers", x.run(1, 9), 1);
        due("one, three, five or seven times", x.ways(), 4);
        due("least times", x.step(0, true), 1);
        due("two states", x.spread(0, 1), 1);
        due("no more", x.spread(0, 2), 0);
        due("deepest", x.deepest(0), 1);
        labels(x, true, 0, 1, 0, 1, 0, 1, 0, 1);
        due("there already, not by a step", x.run(1, 9), 0);
        due("the empty row alone", x.ways(), 1);
    }

    private static void replay() {
        TwoEndSearch x = new TwoEndSearch(4);
        due("nothing to do", x.replay(07), true);
        due("no moves", x.replay(070), false);
        round(x, 0, 1, 2);
        round(x, 2, 3);
        due("nothing to do, with moves", x.replay(07), true);
        due("three times the round", x.replay(07000), true);
        due("twice the round", x.replay(0700), false);
        due("twice the swap", x.replay(0711), true);
        due("a move that is none", x.replay(0722), false);
        due("moves 6", x.replay(0766), false);
        due("no end", x.replay(0), false);
        due("no end, with moves", x.replay(011), false);
        due("something above the end", x.replay(01711), false);
        due("an end above the end", x.replay(07711), false);
        due("two ends", x.replay(077), false);
        due("something far above", x.replay(0100000000000000000007L), false);
        due("below 0", x.replay(-1), false);
        due("least", x.replay(Long.MIN_VALUE), false);
        due("below 0, ending well", x.replay(Long.MIN_VALUE | 07), false);
        due("greatest", x.replay(Long.MAX_VALUE), false);
        labels(x, true, 2, 0, 3, 1);
        due("the round first, the goal of that", x.replay(0710), true);
        due("the swap first, the goal of the round first", x.replay(0701), false);
        labels(x, true, 3, 0, 1, 2);
        due("the swap first, the goal of that", x.replay(0701), true);
        due("the round first, the goal of the swap first", x.replay(0710), false);
    }

    /** 21 digits: twenty moves and the end; the twenty-first digit may be a 7 as well. */
    private static void replayLongest() {
        TwoEndSearch x = new TwoEndSearch(2);
        x.move();
        round(x, 0, 1);
        due("twenty times nothing", x.replay(0700000000000000000000L), true);
        due("nineteen times nothing, a swap", x.replay(0710000000000000000000L), false);
        labels(x, true, 1, 0);
        due("twenty times nothing, not the goal", x.replay(0700000000000000000000L), false);
        due("a swap in the end", x.replay(0710000000000000000000L), true);
        due("no end in 21 digits", x.replay(0100000000000000000000L), false);
    }

    private static void clear() {
        TwoEndSearch x = withFoundRow();
        labels(x, false, 2, 2, 1);
        x.clear();
        due("no move", x.order(0), 0);
        due("no move to lengthen", x.cycle(0, 0, 1), false);
        due("no move to replay", x.replay(070), false);
        due("start is goal", x.replay(07), true);
        due("one state", x.deepest(0), 0);
        labels(x, true, 0, 1, 2);
        due("start as at first", x.run(0, 0), 0);
        x.label(false, 0, 5);
        x.clear();
        labels(x, false, 0, 1, 2);
        due("goal as at first", x.run(0, 0), 0);
        due("as many places", x.label(false, 3, 0), false);
        for (int number = 0; number < 6; number++) {
            due("moves from 0 on", x.move(), number);
            due("that leave everything", x.order(number), 1);
        }
        due("six again", x.move(), -1);
        x.clear();
        due("behind a second clear", x.move(), 0);
        due("two places change again", x.cycle(0, 0, 1), true);
        labels(x, true, 1, 0, 2);
        due("a row again", x.run(0, 3), 1);
        dueFound("behind clear and run", x);
    }
}
