import java.util.ArrayList;
import java.util.List;

/**
 * The sentences of the document that name a boundary case (too small, too large, empty, full, a
 * wrap-around, a refused call), one test for each. A failure is printed behind its sentence.
 *
 * <p>Whether a call did nothing is seen from two objects that had the same calls, but for that one:
 * they must answer all later calls alike.
 */
public final class BoundaryTest {
    private static final int LEAST = Integer.MIN_VALUE;
    private static final int GREATEST = Integer.MAX_VALUE;
    private static final int[] NO_MEASURE = {-1, 2, -2, 3, LEAST, GREATEST};
    private static final int[] BELOW_0 = {-1, -2, LEAST + 1, LEAST};
    private static String sentence = "";
    private static int sentences = 0;
    private static int asked = 0;
    private static int wrong = 0;

    /** Makes an object and brings it to where a test begins. */
    private interface Maker {
        TwoEndSearch make();
    }

    private interface Call {
        long on(TwoEndSearch x);
    }

    public static void main(String[] args) {
        terms();
        termsOfRows();
        newObject();
        move();
        cycle();
        cycleRefused();
        order();
        label();
        run();
        step();
        ways();
        spread();
        deepest();
        replay();
        clear();
        mostCalls();
        System.out.println(sentences + " sentences, " + asked + " answers asked, " + wrong + " wrong");
        if (wrong != 0) {
            System.exit(1);
        }
    }

    private static void terms() {
        placesFrom0();
        labelsFrom0To7();
        labelsAsOftenAsOneLikes();
        labelsAtFirst();
        noTwoToOne();
    }

    private static void termsOfRows() {
        timesOfAStep();
        orderIsLeast();
        leavesEverything();
        emptyRow();
        fewerStepsOfThatMeasure();
        lessRow();
    }

    private static void newObject() {
        noMovesAtFirst();
        placesBelow();
        placesAbove();
        placesWithin();
    }

    private static void move() {
        moveNumbers();
        moveLetsGo();
        moveWhenThereAreSix();
    }

    private static void cycle() {
        cycleLengthens();
        cycleToTheFullRound();
        cycleLetsGo();
    }

    private static void cycleRefused() {
        cycleOfNoMove();
        cycleOfNoPlace();
        cycleOfOnePlace();
        cycleToWhatIsMoved();
    }

    private static void order() {
        orderOfNoMove();
    }

    private static void label() {
        labelIsSet();
        labelOfNoPlace();
        labelOutside();
        labelLetsGo();
    }

    private static void run() {
        runOfJustSoMany();
        runOfNone();
        runOfNoMeasure();
        runOfMostBelow0();
    }

    private static void step() {
        stepsOfARow();
        noStep();
        noStepWhenNothingIsFound();
    }

    private static void ways() {
        waysModulo();
        waysOfNothing();
    }

    private static void spread() {
        spreadFrom0();
        spreadByTheMostSteps();
        spreadBehindTheLast();
        spreadOfNoMeasure();
        spreadBelow0();
    }

    private static void deepest() {
        deepestOfOneState();
        deepestOfThoseThatCanBe();
        deepestOfNoMeasure();
    }

    private static void replay() {
        replayLowestFirst();
        replayFirst7();
        replayLongest();
        replayWithout7();
        replayWithMoreAbove();
        replayBelow0();
        replayOfNoMove();
    }

    private static void clear() {
        clearDropsMoves();
        clearOfStates();
        clearKeepsPlaces();
    }

    // Of what all tests use.

    private static void sentence(String words) {
        sentence = words;
        sentences++;
    }

    private static void due(String what, long got, long want) {
        asked++;
        if (got != want) {
            wrong++;
            if (wrong <= 60) {
                System.out.println("\"" + sentence + "\": " + what + " answered " + got + ", due is " + want);
            }
        }
    }

    private static void due(String what, boolean got, boolean want) {
        due(what, bit(got), bit(want));
    }

    private static long bit(boolean answer) {
        return answer ? 1 : 0;
    }

    /** What is at each of the places goes to the next one of them, from the last to the first. */
    private static void round(TwoEndSearch x, int move, int... places) {
        for (int i = places.length - 1; i > 0; i--) {
            due("cycle of a round", x.cycle(move, places[0], places[i]), true);
        }
    }

    private static int newRound(TwoEndSearch x, int... places) {
        int move = x.move();
        round(x, move, places);
        return move;
    }

    private static void labels(TwoEndSearch x, boolean goal, int... labels) {
        for (int place = 0; place < labels.length; place++) {
            due("label " + labels[place] + " at " + place, x.label(goal, place, labels[place]), true);
        }
    }

    private static void goal(TwoEndSearch x, int... labels) {
        labels(x, true, labels);
    }

    private static void start(TwoEndSearch x, int... labels) {
        labels(x, false, labels);
    }

    /** Of four places; a row of two steps is found: move 0 once, move 1 once. */
    private static TwoEndSearch foundOnce() {
        TwoEndSearch x = twoMoves();
        due("a row of measure 0", x.run(0, 5), 2);
        return x;
    }

    /** Of four places; a row of two steps is found: move 0 twice, move 1 once. */
    private static TwoEndSearch foundPowers() {
        TwoEndSearch x = twoMoves();
        goal(x, 1, 2, 3, 0);
        due("a row of measure 1", x.run(1, 5), 2);
        return x;
    }

    private static TwoEndSearch twoMoves() {
        TwoEndSearch x = new TwoEndSearch(4);
        newRound(x, 0, 1, 2);
        newRound(x, 2, 3);
        goal(x, 2, 0, 3, 1);
        return x;
    }

    /** The empty row is found: one way, no step. */
    private static TwoEndSearch foundEmpty() {
        TwoEndSearch x = twoMoves();
        goal(x, 0, 1, 2, 3);
        due("the empty row", x.run(0, 0), 0);
        return x;
    }

    private static TwoEndSearch nothingFound() {
        TwoEndSearch x = twoMoves();
        due("no row of one step", x.run(0, 1), -1);
        return x;
    }

    private static TwoEndSearch sixMoves() {
        TwoEndSearch x = new TwoEndSearch(4);
        newRound(x, 0, 1, 2);
        newRound(x, 2, 3);
        x.move();
        newRound(x, 0, 1, 2, 3);
        x.move();
        newRound(x, 1, 3);
        goal(x, 2, 0, 3, 1);
        due("a row of six moves", x.run(0, 5), 2);
        return x;
    }

    private static List<Maker> makers() {
        return List.of(BoundaryTest::foundOnce, BoundaryTest::foundPowers, BoundaryTest::foundEmpty,
            BoundaryTest::nothingFound, BoundaryTest::sixMoves, () -> new TwoEndSearch(4));
    }

    private static void dueFoundOnce(String when, TwoEndSearch x) {
        due("ways " + when, x.ways(), 1);
        due("first move " + when, x.step(0, false), 0);
        due("second move " + when, x.step(1, false), 1);
        due("second times " + when, x.step(1, true), 1);
        due("third move " + when, x.step(2, false), -1);
    }

    private static void dueGone(String when, TwoEndSearch x) {
        due("ways " + when, x.ways(), 0);
        for (int k = 0; k < 3; k++) {
            due("move of step " + k + " " + when, x.step(k, false), -1);
            due("times of step " + k + " " + when, x.step(k, true), -1);
        }
    }

    private static void dueNothingDone(String what, Call refused, long want) {
        for (Maker maker : makers()) {
            dueNothingDone(what, maker, refused, want);
        }
    }

    private static void dueNothingDone(String what, Maker maker, Call refused, long want) {
        TwoEndSearch touched = maker.make();
        due(what, refused.on(touched), want);
        due(what + " again", refused.on(touched), want);
        dueAlike("behind " + what, touched, maker.make());
    }

    private static void dueAlike(String what, TwoEndSearch one, TwoEndSearch other) {
        List<Long> got = allAnswers(one);
        List<Long> want = allAnswers(other);
        due(what + ", number of answers", got.size(), want.size());
        for (int i = 0; i < Math.min(got.size(), want.size()); i++) {
            due(what + ", answer " + i, got.get(i), want.get(i));
        }
    }

    /** Some 240 calls: first those that only ask, so that what was found is asked for in time. */
    private static List<Long> allAnswers(TwoEndSearch x) {
        List<Long> answers = new ArrayList<>();
        addFound(x, answers);
        for (int move = -1; move <= 6; move++) {
            answers.add((long) x.order(move));
        }
        addReplays(x, answers);
        addDistances(x, answers);
        addFound(x, answers);
        addRuns(x, answers);
        addChanges(x, answers);
        x.clear();
        answers.add((long) x.order(0));
        answers.add((long) x.run(0, 0));
        answers.add((long) x.move());
        return answers;
    }

    private static void addFound(TwoEndSearch x, List<Long> answers) {
        answers.add(x.ways());
        for (int k = -1; k <= 4; k++) {
            answers.add((long) x.step(k, false));
            answers.add((long) x.step(k, true));
        }
    }

    private static void addReplays(TwoEndSearch x, List<Long> answers) {
        for (long digits = 0; digits < 64; digits++) {
            answers.add(bit(x.replay(0700 | digits)));
        }
        answers.add(bit(x.replay(07)));
        for (int move = 0; move < 6; move++) {
            answers.add(bit(x.replay(070 | move)));
        }
    }

    private static void addDistances(TwoEndSearch x, List<Long> answers) {
        for (int measure = 0; measure < 2; measure++) {
            for (int steps = 0; steps < 5; steps++) {
                answers.add((long) x.spread(measure, steps));
            }
            answers.add((long) x.deepest(measure));
        }
    }

    private static void addRuns(TwoEndSearch x, List<Long> answers) {
        for (int measure = 0; measure < 2; measure++) {
            answers.add((long) x.run(measure, 99));
            addFound(x, answers);
        }
    }

    /** What only a change shows: which places a move leaves, what is where, how many moves there are. */
    private static void addChanges(TwoEndSearch x, List<Long> answers) {
        for (int place = 0; place < 4; place++) {
            answers.add(bit(x.label(false, place, place)));
        }
        addRuns(x, answers);
        for (int place = 0; place < 4; place++) {
            answers.add(bit(x.label(true, place, (place + 1) % 4)));
        }
        addRuns(x, answers);
        for (int to = 0; to < 4; to++) {
            answers.add(bit(x.cycle(0, 0, to)));
            answers.add(bit(x.cycle(1, 3, to)));
            answers.add(bit(x.cycle(2, 1, to)));
        }
        for (int move = 0; move < 6; move++) {
            answers.add((long) x.order(move));
            answers.add((long) x.move());
        }
    }

    // Terms.

    private static void placesFrom0() {
        sentence("PLACES 0 .. places - 1.");
        for (int places = 1; places <= 8; places++) {
            duePlaces(new TwoEndSearch(places), places);
        }
    }

    private static void duePlaces(TwoEndSearch x, int places) {
        due("a move", x.move(), 0);
        for (boolean goal : new boolean[] {false, true}) {
            due("label at 0 of " + places, x.label(goal, 0, 0), true);
            due("label at the last of " + places, x.label(goal, places - 1, places - 1), true);
            due("label behind the last of " + places, x.label(goal, places, 0), false);
            due("label before 0 of " + places, x.label(goal, -1, 0), false);
        }
        due("cycle from behind the last of " + places, x.cycle(0, places, 0), false);
        due("cycle to behind the last of " + places, x.cycle(0, 0, places), false);
        due("cycle from before 0 of " + places, x.cycle(0, -1, 0), false);
        due("cycle to before 0 of " + places, x.cycle(0, 0, -1), false);
        for (int to = 1; to < places; to++) {
            due("cycle to " + to + " of " + places, x.cycle(0, 0, to), true);
        }
        due("round of all " + places, x.order(0), places);
        due("states of the round of all " + places, x.deepest(0), places - 1);
    }

    private static void labelsFrom0To7() {
        sentence("A STATE says of each place which LABEL (0 to 7) is there");
        for (int places = 1; places <= 8; places += 7) {
            TwoEndSearch x = new TwoEndSearch(places);
            for (int label = 0; label <= 7; label++) {
                due("goal's label " + label, x.label(true, places - 1, label), true);
                due("start's label " + label, x.label(false, places - 1, label), true);
                due("the same label " + label, x.run(0, 0), 0);
                due("start's label not " + label, x.label(false, places - 1, 7 - label), true);
                due("another label than " + label, x.run(0, 0), -1);
            }
        }
    }

    private static void labelsAsOftenAsOneLikes() {
        sentence("labels as often as one likes");
        for (int label = 0; label <= 7; label++) {
            TwoEndSearch x = new TwoEndSearch(8);
            newRound(x, 0, 1, 2, 3, 4, 5, 6, 7);
            newRound(x, 0, 1);
            start(x, label, label, label, label, label, label, label, label);
            due("no goal of one label " + label, x.run(0, 99), -1);
            due("no goal of one label in powers " + label, x.run(1, 99), -1);
            goal(x, label, label, label, label, label, label, label, label);
            due("one label " + label, x.run(0, 99), 0);
            due("one state of one label " + label, x.deepest(0), 0);
            due("no step leads out of it " + label, x.spread(1, 1), 0);
            int other = 7 - label;
            start(x, label, label, label, label, label, label, label, other);
            goal(x, label, label, label, label, label, label, other, label);
            due("seven of " + label, x.run(0, 99), 7);
            due("eight states", x.spread(1, 1), 7);
            goal(x, label, label, label, label, label, other, other, label);
            due("labels as often otherwise", x.run(0, 99), -1);
            due("eight states still", x.deepest(1), 1);
        }
        allStatesAreThere();
    }

    private static void allStatesAreThere() {
        TwoEndSearch x = new TwoEndSearch(8);
        newRound(x, 0, 1, 2, 3, 4, 5, 6, 7);
        newRound(x, 0, 1);
        for (int measure = 0; measure < 2; measure++) {
            int sum = 0;
            for (int steps = 0; steps <= x.deepest(measure); steps++) {
                sum += x.spread(measure, steps);
            }
            due("all orders of eight labels, measure " + measure, sum, 40320);
        }
        start(x, 0, 0, 0, 0, 1, 1, 1, 1);
        int sum = 0;
        for (int steps = 0; steps <= x.deepest(0); steps++) {
            sum += x.spread(0, steps);
        }
        due("all orders of four and four", sum, 70);
    }

    private static void labelsAtFirst() {
        sentence("in both, place p has label p at first.");
        for (int places = 1; places <= 8; places++) {
            for (int place = 0; place < places; place++) {
                TwoEndSearch x = new TwoEndSearch(places);
                due("start and goal", x.run(0, 0), 0);
                due("another label of the goal", x.label(true, place, (place + 1) % 8), true);
                due("not the start's", x.run(0, 0), -1);
                due("the goal's", x.label(true, place, place), true);
                due("the start's", x.run(0, 0), 0);
                due("another label of the start", x.label(false, place, (place + 1) % 8), true);
                due("not the goal's", x.replay(7), false);
                due("the start's again", x.label(false, place, place), true);
                due("as at first", x.replay(7), true);
            }
        }
    }

    private static void noTwoToOne() {
        sentence("A MOVE brings what is at each place to a place, no two to one.");
        TwoEndSearch x = new TwoEndSearch(8);
        x.move();
        for (int from = 0; from < 8; from++) {
            for (int to = 0; to < 8; to++) {
                x.cycle(0, from, (to * 3 + from) % 8);
                int times = x.order(0);
                due("an order", times >= 1 && times <= 15, true);
                due("all labels are there still", x.replay(times < 15 ? 7L << (3 * times) : 7), true);
            }
        }
    }

    private static void timesOfAStep() {
        sentence("it is done once (measure 0), or as often as one likes, at least once and fewer times"
            + " than its ORDER (measure 1");
        dueTimes(2, new int[] {0, 1});
        dueTimes(3, new int[] {0, 1, 2});
        dueTimes(8, new int[] {0, 1, 2, 3, 4, 5, 6, 7});
        dueTimes(12, new int[] {0, 1, 2, 3}, new int[] {4, 5, 6});
        dueTimes(15, new int[] {0, 1, 2, 3, 4}, new int[] {5, 6, 7});
        TwoEndSearch x = new TwoEndSearch(4);
        newRound(x, 0, 1, 2, 3);
        start(x, 0, 1, 0, 1);
        goal(x, 1, 0, 1, 0);
        due("once or three times", x.run(1, 9), 1);
        due("not five times", x.ways(), 2);
        due("in measure 0", x.run(0, 9), 1);
        due("not three times", x.ways(), 1);
    }

    private static void dueTimes(int order, int[]... rounds) {
        TwoEndSearch x = new TwoEndSearch(8);
        x.move();
        for (int[] places : rounds) {
            round(x, 0, places);
        }
        due("order", x.order(0), order);
        due("states one step away, once", x.spread(0, 1), 1);
        due("states one step away, as often as one likes", x.spread(1, 1), order - 1);
        due("no states two steps away", x.spread(1, 2), 0);
        for (int times = 1; times < order; times++) {
            doneTo(x, times, rounds);
            due("by one step " + times + " times", x.run(1, 1), 1);
            due("times", x.step(0, true), times);
            due("one way", x.ways(), 1);
        }
        due("by single steps", x.run(0, order - 1), order - 1);
        due("the last one once", x.step(order - 2, true), 1);
        due("not by fewer", x.run(0, order - 2), -1);
    }

    /** The goal is the first state with rounds done to it so many times. */
    private static void doneTo(TwoEndSearch x, int times, int[]... rounds) {
        for (int[] places : rounds) {
            for (int i = 0; i < places.length; i++) {
                due("goal's label", x.label(true, places[(i + times) % places.length], places[i]), true);
            }
        }
    }

    private static void orderIsLeast() {
        sentence("the least number of times, at least 1, after which all places have what they had");
        int[][] rounds = {{}, {2}, {3}, {4}, {5}, {6}, {7}, {8}, {2, 2}, {2, 3}, {2, 4}, {2, 5}, {2, 6}, {3, 3},
            {3, 4}, {3, 5}, {4, 4}, {2, 2, 2}, {2, 2, 3}, {2, 2, 4}, {2, 3, 3}, {2, 2, 2, 2}};
        for (int[] lengths : rounds) {
            TwoEndSearch x = new TwoEndSearch(8);
            due("a move", x.move(), 0);
            int first = 0;
            int order = 1;
            for (int length : lengths) {
                for (int i = 1; i < length; i++) {
                    due("cycle", x.cycle(0, first, first + i), true);
                }
                first += length;
                order = commonMultiple(order, length);
            }
            due("order of rounds " + java.util.Arrays.toString(lengths), x.order(0), order);
            start(x, 0, 0, 0, 0, 0, 0, 0, 0);
            due("of places, whatever labels they have", x.order(0), order);
        }
    }

    private static int commonMultiple(int a, int b) {
        int multiple = a;
        while (multiple % b != 0) {
            multiple += a;
        }
        return multiple;
    }

    private static void leavesEverything() {
        sentence("A move that leaves everything has order 1: in measure 1 it is no step.");
        for (int places = 1; places <= 8; places++) {
            TwoEndSearch x = new TwoEndSearch(places);
            due("a move", x.move(), 0);
            due("order", x.order(0), 1);
            due("no step leads anywhere", x.spread(1, 1), 0);
            due("nor in measure 0", x.spread(0, 1), 0);
            due("deepest", x.deepest(1), 0);
            due("there already", x.run(1, 9), 0);
            due("by the empty row alone", x.ways(), 1);
            due("no step", x.step(0, true), -1);
            due("done once all the same", x.replay(070), true);
        }
        TwoEndSearch x = new TwoEndSearch(3);
        x.move();
        newRound(x, 0, 1, 2);
        x.move();
        goal(x, 1, 2, 0);
        due("beside it", x.run(1, 9), 1);
        due("not by it", x.step(0, false), 1);
        due("one way beside it", x.ways(), 1);
        due("beside it in measure 0", x.run(0, 9), 2);
        due("one way in measure 0", x.ways(), 1);
        due("a goal that it does not lead to", x.label(true, 0, 7), true);
        due("no row", x.run(1, GREATEST), -1);
    }

    private static void emptyRow() {
        sentence("A ROW is of steps one behind the other that lead from THE START to THE GOAL.");
        for (int measure = 0; measure < 2; measure++) {
            TwoEndSearch x = twoMoves();
            x.move();
            goal(x, 0, 1, 2, 3);
            due("the start is the goal", x.run(measure, 0), 0);
            due("one empty row", x.ways(), 1);
            due("no step", x.step(0, false), -1);
            due("no times", x.step(0, true), -1);
            due("with more allowed", x.run(measure, GREATEST), 0);
            due("one empty row still", x.ways(), 1);
        }
    }

    private static void fewerStepsOfThatMeasure() {
        sentence("It is SHORTEST when there is none with fewer steps (of that measure).");
        TwoEndSearch x = new TwoEndSearch(4);
        newRound(x, 0, 1, 2, 3);
        newRound(x, 0, 3);
        goal(x, 3, 1, 2, 0);
        due("the swap alone", x.run(0, 9), 1);
        due("its move", x.step(0, false), 1);
        goal(x, 1, 2, 3, 0);
        due("three rounds of measure 0", x.run(0, 9), 3);
        due("three single steps", x.step(2, true), 1);
        due("one step of measure 1", x.run(1, 9), 1);
        due("of three times", x.step(0, true), 3);
    }

    private static void lessRow() {
        sentence("Of two rows that is the less one which has, in the first step that differs, the move"
            + " with the lesser number, or the same move fewer times.");
        TwoEndSearch inverse = new TwoEndSearch(4);
        newRound(inverse, 0, 1, 2, 3);
        newRound(inverse, 3, 2, 1, 0);
        goal(inverse, 1, 2, 3, 0);
        due("move 0 three times or move 1 once", inverse.run(1, 9), 1);
        due("two rows", inverse.ways(), 2);
        due("the lesser number, though more times", inverse.step(0, false), 0);
        due("its times", inverse.step(0, true), 3);
        start(inverse, 0, 1, 0, 1);
        goal(inverse, 1, 0, 1, 0);
        due("any odd number of times", inverse.run(1, 9), 1);
        due("four rows", inverse.ways(), 4);
        due("the lesser number", inverse.step(0, false), 0);
        due("fewer times", inverse.step(0, true), 1);

        TwoEndSearch late = new TwoEndSearch(4);
        newRound(late, 0, 1, 2);
        newRound(late, 2, 3);
        newRound(late, 2, 3);
        goal(late, 2, 0, 3, 1);
        due("differing in the second step", late.run(0, 9), 2);
        due("two rows", late.ways(), 2);
        due("first step", late.step(0, false), 0);
        due("second step", late.step(1, false), 1);
        lessRowOfEqualMoves();
    }

    private static void lessRowOfEqualMoves() {
        TwoEndSearch x = new TwoEndSearch(8);
        for (int move = 0; move < 3; move++) {
            newRound(x, 6 - 2 * move, 7 - 2 * move);
        }
        for (int move = 3; move < 6; move++) {
            newRound(x, 2 * move - 4, 2 * move - 3);
        }
        goal(x, 0, 1, 3, 2, 5, 4, 7, 6);
        due("three swaps in any order", x.run(0, 3), 3);
        due("each of two moves", x.ways(), 48);
        for (int k = 0; k < 3; k++) {
            due("step " + k, x.step(k, false), k);
        }
    }

    // Promise 1.

    private static void noMovesAtFirst() {
        sentence("No moves.");
        for (int places = 0; places <= 9; places++) {
            TwoEndSearch x = new TwoEndSearch(places);
            dueNoMoves(x);
            dueGone("of a new object", x);
            due("first move", x.move(), 0);
        }
    }

    private static void dueNoMoves(TwoEndSearch x) {
        for (int move = 0; move < 6; move++) {
            due("order of none", x.order(move), 0);
            due("cycle of none", x.cycle(move, 0, 1), false);
            due("replay of none", x.replay(070 | move), false);
        }
        for (int measure = 0; measure < 2; measure++) {
            due("no step", x.spread(measure, 1), 0);
            due("one state", x.spread(measure, 0), 1);
            due("deepest", x.deepest(measure), 0);
        }
    }

    private static void placesBelow() {
        sentence("places is held to 1 .. 8 (what is below counts as 1");
        for (int given : new int[] {0, -1, -2, -7, -8, -9, LEAST + 1, LEAST}) {
            duePlaces(new TwoEndSearch(given), 1);
            dueAlike("places " + given, new TwoEndSearch(given), new TwoEndSearch(1));
        }
    }

    private static void placesAbove() {
        sentence("places is held to 1 .. 8 (.. what is above as 8).");
        for (int given : new int[] {9, 10, 16, 17, 264, 1 << 16, GREATEST - 1, GREATEST}) {
            duePlaces(new TwoEndSearch(given), 8);
            dueAlike("places " + given, new TwoEndSearch(given), new TwoEndSearch(8));
        }
    }

    private static void placesWithin() {
        sentence("places is held to 1 .. 8");
        duePlaces(new TwoEndSearch(1), 1);
        duePlaces(new TwoEndSearch(2), 2);
        duePlaces(new TwoEndSearch(7), 7);
        duePlaces(new TwoEndSearch(8), 8);
    }

    // Promise 2.

    private static void moveNumbers() {
        sentence("A move that leaves everything: its number, from 0 on");
        for (int places = 1; places <= 8; places++) {
            TwoEndSearch x = new TwoEndSearch(places);
            for (int number = 0; number < 6; number++) {
                due("not there yet", x.order(number), 0);
                due("number", x.move(), number);
                due("order", x.order(number), 1);
                due("the next is not there yet", x.order(number + 1), 0);
                due("leaves everything", x.replay(070 | number), true);
                due("leads nowhere", x.spread(0, 1), 0);
            }
        }
    }

    private static void moveLetsGo() {
        sentence("(what was found is gone then)");
        TwoEndSearch x = foundOnce();
        due("third move", x.move(), 2);
        dueGone("behind move", x);
        due("found again", x.run(0, 5), 2);
        dueFoundOnce("found again", x);
        TwoEndSearch empty = foundEmpty();
        due("move behind the empty row", empty.move(), 2);
        dueGone("behind move, of the empty row", empty);
    }

    private static void moveWhenThereAreSix() {
        sentence("-1, doing nothing, when there are 6.");
        TwoEndSearch x = sixMoves();
        long ways = x.ways();
        due("seventh", x.move(), -1);
        due("found still", x.ways(), ways);
        due("its first step", x.step(0, false), 0);
        due("eighth", x.move(), -1);
        due("no seventh", x.order(6), 0);
        due("first one as it was", x.order(0), 3);
        due("last one as it was", x.order(5), 2);
        for (Maker maker : List.<Maker>of(BoundaryTest::sixMoves, BoundaryTest::sixMovesFoundPowers)) {
            dueNothingDone("a seventh move", maker, TwoEndSearch::move, -1);
        }
    }

    private static TwoEndSearch sixMovesFoundPowers() {
        TwoEndSearch x = sixMoves();
        goal(x, 1, 2, 3, 0);
        due("one step of measure 1", x.run(1, 3), 1);
        due("of three times", x.step(0, true), 3);
        return x;
    }

    // Promise 3.

    /** All rows of three calls on four places, beside what the sentence says of each. */
    private static void cycleLengthens() {
        sentence("it brings what is at from to the place to, and what is at to where it brought it from from.");
        for (int pairs = 0; pairs < 16 * 16 * 16; pairs++) {
            TwoEndSearch x = new TwoEndSearch(4);
            x.move();
            int[] targets = {0, 1, 2, 3};
            for (int rest = pairs, call = 0; call < 3; call++, rest /= 16) {
                int from = rest % 4;
                int to = rest / 4 % 4;
                boolean fits = from != to && targets[to] == to;
                due("cycle " + from + " " + to, x.cycle(0, from, to), fits);
                if (fits) {
                    targets[to] = targets[from];
                    targets[from] = to;
                }
                for (int place = 0; place < 4; place++) {
                    due("goal's label", x.label(true, targets[place], place), true);
                }
                due("what it brings where, row " + pairs, x.replay(070), true);
            }
        }
    }

    private static void cycleToTheFullRound() {
        sentence("A move is lengthened");
        for (int places = 2; places <= 8; places++) {
            TwoEndSearch x = new TwoEndSearch(places);
            x.move();
            for (int to = places - 2; to >= 0; to--) {
                due("lengthened", x.cycle(0, places - 1, to), true);
                due("order", x.order(0), places - to);
            }
            for (int from = 0; from < places; from++) {
                for (int to = 0; to < places; to++) {
                    due("a full round", x.cycle(0, from, to), false);
                }
            }
            due("order of the full round", x.order(0), places);
            due("another move is not full", x.move(), 1);
            due("cycle of it", x.cycle(1, 0, 1), true);
        }
    }

    private static void cycleLetsGo() {
        sentence("cycle: What was found is gone.");
        TwoEndSearch x = foundOnce();
        due("cycle", x.cycle(0, 0, 3), true);
        dueGone("behind cycle", x);
        TwoEndSearch other = foundPowers();
        due("cycle of the other move", other.cycle(1, 0, 1), true);
        dueGone("behind cycle of the other move", other);
        TwoEndSearch empty = foundEmpty();
        due("cycle behind the empty row", empty.cycle(1, 2, 0), true);
        dueGone("behind cycle, of the empty row", empty);
    }

    private static void cycleOfNoMove() {
        sentence("False, doing nothing, when there is no such move");
        for (int stray : new int[] {-1, -2, 6, 7, 8, 12, LEAST, LEAST + 1, GREATEST}) {
            dueNothingDone("cycle of move " + stray, x -> bit(x.cycle(stray, 3, 2)), 0);
            dueNothingDone("cycle of move " + stray + " beside", x -> bit(x.cycle(stray, 0, 3)), 0);
        }
        for (int number = 2; number < 6; number++) {
            int next = number;
            dueNothingDone("cycle of the move " + next, BoundaryTest::foundOnce, x -> bit(x.cycle(next, 0, 3)), 0);
        }
        dueNothingDone("cycle of no move at all", () -> new TwoEndSearch(4), x -> bit(x.cycle(0, 0, 1)), 0);
    }

    private static void cycleOfNoPlace() {
        sentence("False, doing nothing, when there is no such .. place");
        for (int stray : new int[] {-1, -2, 4, 5, 7, 8, 9, 32, LEAST, LEAST + 1, GREATEST}) {
            for (int move = 0; move < 6; move++) {
                int number = move;
                dueNothingDone("cycle from " + stray, x -> bit(x.cycle(number, stray, 3)), 0);
                dueNothingDone("cycle to " + stray, x -> bit(x.cycle(number, 0, stray)), 0);
                dueNothingDone("cycle from and to " + stray, x -> bit(x.cycle(number, stray, stray)), 0);
            }
        }
    }

    private static void cycleOfOnePlace() {
        sentence("False, doing nothing, when .. they are one");
        for (int place = 0; place < 4; place++) {
            for (int move = 0; move < 6; move++) {
                int number = move;
                int one = place;
                dueNothingDone("cycle from and to " + one, x -> bit(x.cycle(number, one, one)), 0);
            }
        }
        dueNothingDone("the only place", BoundaryTest::onePlace, x -> bit(x.cycle(0, 0, 0)), 0);
    }

    private static TwoEndSearch onePlace() {
        TwoEndSearch x = new TwoEndSearch(1);
        due("a move of one place", x.move(), 0);
        due("the empty row", x.run(1, 3), 0);
        return x;
    }

    private static void cycleToWhatIsMoved() {
        sentence("False, doing nothing, when .. the move does not leave what is at to.");
        for (int from = 0; from < 4; from++) {
            for (int to = 0; to < 4; to++) {
                int a = from;
                int b = to;
                if (to < 3) {
                    dueNothingDone("cycle to " + b + " of move 0", BoundaryTest::foundOnce,
                        x -> bit(x.cycle(0, a, b)), 0);
                }
                if (to > 1) {
                    dueNothingDone("cycle to " + b + " of move 1", BoundaryTest::foundPowers,
                        x -> bit(x.cycle(1, a, b)), 0);
                }
                dueNothingDone("cycle of a full round", BoundaryTest::sixMoves, x -> bit(x.cycle(3, a, b)), 0);
            }
        }
        TwoEndSearch x = foundOnce();
        due("from what is moved to what is not", x.cycle(0, 1, 3), true);
        due("from what is not moved, to what is", x.cycle(1, 0, 2), false);
        due("from what is not moved, to what is not", x.cycle(1, 0, 1), true);
    }

    // Promise 4.

    private static void orderOfNoMove() {
        sentence("0 when there is no such move.");
        TwoEndSearch x = new TwoEndSearch(8);
        for (int count = 0; count <= 6; count++) {
            for (int stray : new int[] {-1, -2, count, 6, 7, 8, 11, 12, LEAST, LEAST + 1, GREATEST}) {
                due("order of " + stray + " when there are " + count, x.order(stray), 0);
            }
            for (int number = 0; number < count; number++) {
                due("order of " + number + " when there are " + count, x.order(number), number + 2);
            }
            if (count < 6) {
                newRound(x, java.util.Arrays.copyOf(new int[] {7, 6, 5, 4, 3, 2, 1}, count + 2));
            }
        }
        for (int stray : new int[] {-1, 6, LEAST, GREATEST}) {
            dueNothingDone("order of " + stray, y -> y.order(stray), 0);
        }
        x.clear();
        due("order behind clear", x.order(0), 0);
    }

    // Promise 5.

    private static void labelIsSet() {
        sentence("The label at a place of THE START (or, with goal, of THE GOAL): true");
        for (int place = 0; place < 8; place++) {
            for (int label = 0; label < 8; label++) {
                TwoEndSearch x = new TwoEndSearch(8);
                due("of the start", x.label(false, place, label), true);
                due("is it the goal", x.run(0, 0), label == place ? 0 : -1);
                due("of the goal", x.label(true, place, label), true);
                due("is it the start", x.run(0, 0), 0);
                due("of the start as at first", x.label(false, place, place), true);
                due("is it the goal again", x.run(0, 0), label == place ? 0 : -1);
            }
        }
    }

    private static void labelOfNoPlace() {
        sentence("false, doing nothing, when there is no such place");
        for (int stray : new int[] {-1, -2, 4, 5, 7, 8, 9, 10, 11, 12, 32, LEAST, LEAST + 1, GREATEST}) {
            for (int label = 0; label <= 7; label += 7) {
                int one = label;
                dueNothingDone("start's label at " + stray, x -> bit(x.label(false, stray, one)), 0);
                dueNothingDone("goal's label at " + stray, x -> bit(x.label(true, stray, one)), 0);
            }
        }
        dueNothingDone("place 1 of one", BoundaryTest::onePlace, x -> bit(x.label(false, 1, 0)), 0);
        TwoEndSearch eight = new TwoEndSearch(8);
        due("place 8 of eight", eight.label(true, 8, 0), false);
        due("place 8 of eight, start", eight.label(false, 8, 0), false);
        due("nothing was done", eight.run(0, 0), 0);
    }

    private static void labelOutside() {
        sentence("false, doing nothing, when .. the label is not 0 to 7.");
        for (int stray : new int[] {-1, -2, -7, -8, 8, 9, 10, 15, 16, 64, 256, LEAST, LEAST + 1, GREATEST}) {
            for (int place = 0; place < 4; place++) {
                int one = place;
                dueNothingDone("start's label " + stray, x -> bit(x.label(false, one, stray)), 0);
                dueNothingDone("goal's label " + stray, x -> bit(x.label(true, one, stray)), 0);
            }
            dueNothingDone("label and place " + stray, x -> bit(x.label(true, stray, stray)), 0);
        }
    }

    private static void labelLetsGo() {
        sentence("label: What was found is gone.");
        for (boolean goal : new boolean[] {false, true}) {
            for (int place = 0; place < 4; place++) {
                TwoEndSearch x = foundOnce();
                due("another label", x.label(goal, place, 7), true);
                dueGone("behind another label", x);
                TwoEndSearch empty = foundEmpty();
                due("the label that is there", empty.label(goal, place, place), true);
                dueGone("behind the label that is there", empty);
                due("found again", empty.run(0, 0), 0);
                due("the empty row", empty.ways(), 1);
            }
        }
        TwoEndSearch x = foundOnce();
        due("the start's own label", x.label(false, 0, 0), true);
        dueGone("behind the start's own label", x);
        due("found again", x.run(0, 5), 2);
        due("the goal's own label", x.label(true, 0, 2), true);
        dueGone("behind the goal's own label", x);
        due("found a third time", x.run(0, 5), 2);
        dueFoundOnce("found a third time", x);
    }

    // Promise 6.

    private static void runOfJustSoMany() {
        sentence("A shortest row of a measure is searched, of at most so many steps: how many it has");
        TwoEndSearch x = new TwoEndSearch(8);
        newRound(x, 0, 1, 2, 3, 4, 5, 6, 7);
        for (int far = 0; far < 8; far++) {
            for (int place = 0; place < 8; place++) {
                x.label(true, (place + far) % 8, place);
            }
            for (int most = 0; most < 9; most++) {
                due("most " + most + " of " + far, x.run(0, most), most >= far ? far : -1);
                due("found, most " + most + " of " + far, x.ways(), most >= far ? 1 : 0);
            }
            due("the greatest most", x.run(0, GREATEST), far);
        }
        due("measure 1, most 0", x.run(1, 0), -1);
        due("measure 1, most 1", x.run(1, 1), 1);
        due("measure 1, the greatest most", x.run(1, GREATEST), 1);
        runOfJustSoManyOfAll();
    }

    /** To states of all distances, both when nothing is known and when all distances are. */
    private static void runOfJustSoManyOfAll() {
        for (int measure = 0; measure < 2; measure++) {
            for (boolean known : new boolean[] {false, true}) {
                TwoEndSearch x = new TwoEndSearch(8);
                newRound(x, 0, 1, 2, 3, 4, 5, 6, 7);
                newRound(x, 0, 1);
                goal(x, 7, 6, 5, 4, 3, 2, 1, 0);
                int far = measure == 0 ? 32 : 23;
                if (known) {
                    due("deepest", x.deepest(measure), measure == 0 ? 35 : 24);
                }
                due("most just too low", x.run(measure, far - 1), -1);
                dueGone("with most just too low", x);
                due("most just so", x.run(measure, far), far);
                due("last step", x.step(far - 1, true) > 0, true);
                due("no more", x.step(far, true), -1);
                due("most much too low", x.run(measure, 1), -1);
                due("most 0", x.run(measure, 0), -1);
                due("most one more", x.run(measure, far + 1), far);
            }
        }
    }

    private static void runOfNone() {
        sentence("-1 when there is none (then nothing is found).");
        TwoEndSearch few = foundOnce();
        due("most too low", few.run(0, 1), -1);
        dueGone("with most too low", few);
        TwoEndSearch powers = foundPowers();
        due("most too low in powers", powers.run(1, 1), -1);
        dueGone("with most too low in powers", powers);
        TwoEndSearch other = foundPowers();
        due("the other measure", other.run(0, 2), -1);
        dueGone("of the other measure", other);
        for (int measure = 0; measure < 2; measure++) {
            TwoEndSearch x = new TwoEndSearch(4);
            due("no moves", x.run(measure, 9), 0);
            goal(x, 1, 2, 0, 3);
            due("no moves, another goal", x.run(measure, GREATEST), -1);
            dueGone("without moves", x);
            newRound(x, 0, 1, 2);
            newRound(x, 1, 2, 3);
            due("can be come to", x.run(measure, 9) > 0, true);
            goal(x, 1, 0, 2, 3);
            due("cannot be come to", x.run(measure, GREATEST), -1);
            dueGone("when it cannot be come to", x);
            goal(x, 0, 1, 2, 2);
            due("labels that the start has not", x.run(measure, GREATEST), -1);
            dueGone("with labels that the start has not", x);
        }
    }

    private static void runOfNoMeasure() {
        sentence("-2, doing nothing, when the measure is not 0 or 1");
        for (int stray : NO_MEASURE) {
            for (int most : new int[] {0, 1, 5, GREATEST, -1, LEAST}) {
                dueNothingDone("run of measure " + stray + ", most " + most, x -> x.run(stray, most), -2);
            }
            TwoEndSearch x = foundOnce();
            due("measure " + stray, x.run(stray, 1), -2);
            dueFoundOnce("behind measure " + stray, x);
        }
    }

    private static void runOfMostBelow0() {
        sentence("-2, doing nothing, when .. most is below 0.");
        for (int most : BELOW_0) {
            for (int measure = 0; measure < 2; measure++) {
                int one = measure;
                dueNothingDone("run of measure " + one + ", most " + most, x -> x.run(one, most), -2);
            }
            TwoEndSearch x = foundOnce();
            due("most " + most, x.run(0, most), -2);
            dueFoundOnce("behind most " + most, x);
        }
        TwoEndSearch x = foundEmpty();
        due("most -1, the goal is there already", x.run(0, -1), -2);
        due("found still", x.ways(), 1);
        due("most 0 is not below 0", x.run(1, 0), 0);
    }

    // Promise 7.

    private static void stepsOfARow() {
        sentence("Of the k-th step (from 0 on) of the least shortest row of what run() found:"
            + " its move, or, with times, how often");
        TwoEndSearch x = foundPowers();
        due("first move", x.step(0, false), 0);
        due("first times", x.step(0, true), 2);
        due("last move", x.step(1, false), 1);
        due("last times", x.step(1, true), 1);
        TwoEndSearch six = new TwoEndSearch(8);
        for (int move = 0; move < 5; move++) {
            six.move();
        }
        newRound(six, 0, 1, 2, 3, 4);
        round(six, 5, 5, 6, 7);
        doneTo(six, 14, new int[] {0, 1, 2, 3, 4}, new int[] {5, 6, 7});
        due("fourteen steps", six.run(0, 14), 14);
        for (int k = 0; k < 14; k++) {
            due("move of step " + k, six.step(k, false), 5);
            due("times of step " + k, six.step(k, true), 1);
        }
        due("one step", six.run(1, 14), 1);
        due("the greatest move", six.step(0, false), 5);
        due("the most times", six.step(0, true), 14);
        due("no second step", six.step(1, false), -1);
    }

    private static void noStep() {
        sentence("step: -1 when there is none.");
        for (boolean times : new boolean[] {false, true}) {
            TwoEndSearch x = foundOnce();
            for (int k : new int[] {2, 3, -1, -2, 1000, 40320, 40321, LEAST, LEAST + 1, GREATEST}) {
                due("step " + k + " of two", x.step(k, times), -1);
                dueFoundOnce("behind step " + k, x);
            }
            TwoEndSearch empty = foundEmpty();
            for (int k : new int[] {0, 1, -1, LEAST, GREATEST}) {
                due("step " + k + " of an empty row", empty.step(k, times), -1);
            }
        }
        for (int k : new int[] {2, -1, LEAST, GREATEST}) {
            dueNothingDone("no step", BoundaryTest::foundOnce, x -> x.step(k, false), -1);
        }
        TwoEndSearch shorter = new TwoEndSearch(4);
        newRound(shorter, 0, 1, 2, 3);
        goal(shorter, 1, 2, 3, 0);
        due("three steps", shorter.run(0, 9), 3);
        due("third", shorter.step(2, true), 1);
        goal(shorter, 2, 3, 0, 1);
        due("two steps", shorter.run(0, 9), 2);
        due("no third any more", shorter.step(2, true), -1);
        due("one step", shorter.run(1, 9), 1);
        due("no second any more", shorter.step(1, true), -1);
    }

    private static void noStepWhenNothingIsFound() {
        sentence("step: -1 when there is none (nothing is found)");
        List<TwoEndSearch> objects = List.of(new TwoEndSearch(8), twoMoves(), nothingFound());
        for (TwoEndSearch x : objects) {
            for (int k : new int[] {0, 1, 2, -1, LEAST, GREATEST}) {
                due("step " + k, x.step(k, false), -1);
                due("times of step " + k, x.step(k, true), -1);
            }
        }
    }

    // Promise 8.

    /** The numbers themselves, unbounded, were counted layer by layer with BigInteger. */
    private static void waysModulo() {
        sentence("How many shortest rows there are (modulo 2^64, as a long), of what run() found");
        dueWays("8105110306037952534, below 2^63", 3, 3, 034072165, 37, 8105110306037952534L);
        dueWays("2^63", 4, 2, 031654027, 40, Long.MIN_VALUE);
        dueWays("12157665459056928801, above 2^63", 3, 3, 013572406, 40, -6289078614652622815L);
        dueWays("14901161193847656250, above 2^63", 5, 1, 051637024, 42, -3545582879861895366L);
        dueWays("2^64", 4, 2, 037201564, 40, 0);
        dueWays("39199331156632797184, above 2^65", 2, 4, 051234067, 44, 2305843009213693952L);
        dueWays("1969541804367222465762, above 2^70", 3, 3, 001634527, 44, -4259811519699557150L);
    }

    /** The goal's labels as digits in base 8, that of place 0 the highest one. */
    private static void dueWays(String what, int firsts, int seconds, int goal, int steps, long ways) {
        TwoEndSearch x = new TwoEndSearch(8);
        for (int copies = 0; copies < firsts; copies++) {
            round(x, newRound(x, 6, 7, 2, 4), 5, 3);
        }
        for (int copies = 0; copies < seconds; copies++) {
            int move = newRound(x, 6, 0);
            round(x, move, 2, 3);
            round(x, move, 1, 5);
        }
        for (int place = 0; place < 8; place++) {
            due("goal's label", x.label(true, place, (goal >> (3 * (7 - place))) & 7), true);
        }
        due("steps for ways " + what, x.run(0, steps), steps);
        due("ways " + what, x.ways(), ways);
        due("the last step is there", x.step(steps - 1, true), 1);
        due("with not so many steps", x.run(0, steps - 1), -1);
        due("no ways then", x.ways(), 0);
        due("all distances", x.deepest(0), 44);
        due("steps again", x.run(0, GREATEST), steps);
        due("ways again " + what, x.ways(), ways);
    }

    private static void waysOfNothing() {
        sentence("0 when nothing is found.");
        due("of a new object", new TwoEndSearch(8).ways(), 0);
        due("when nothing was searched", twoMoves().ways(), 0);
        due("when there was none", nothingFound().ways(), 0);
        due("of the empty row", foundEmpty().ways(), 1);
        TwoEndSearch x = twoMoves();
        x.deepest(0);
        x.spread(1, 2);
        x.replay(0710);
        due("when only distances were asked", x.ways(), 0);
        due("a refused run finds nothing", x.run(2, 9), -2);
        due("behind a refused run", x.ways(), 0);
        due("found", x.run(0, 9), 2);
        due("one way", x.ways(), 1);
        due("asked again", x.ways(), 1);
        x.spread(0, 9);
        x.deepest(1);
        due("found still when distances were asked", x.ways(), 1);
    }

    // Promise 9.

    private static void spreadFrom0() {
        sentence("How many states can be come to from THE START by so many steps of a measure, but not by fewer");
        for (int measure = 0; measure < 2; measure++) {
            for (int places = 1; places <= 8; places++) {
                TwoEndSearch x = new TwoEndSearch(places);
                due("by no steps, without moves", x.spread(measure, 0), 1);
                due("by one step, without moves", x.spread(measure, 1), 0);
                x.move();
                due("by no steps", x.spread(measure, 0), 1);
                due("by one that leaves everything", x.spread(measure, 1), 0);
            }
        }
        TwoEndSearch x = new TwoEndSearch(4);
        newRound(x, 0, 1);
        newRound(x, 2, 3);
        newRound(x, 2, 3);
        due("one step", x.spread(0, 1), 2);
        due("two steps, but not fewer", x.spread(0, 2), 1);
        due("three steps, but not fewer", x.spread(0, 3), 0);
        start(x, 0, 0, 2, 3);
        due("of another start", x.spread(0, 1), 1);
        goal(x, 7, 7, 7, 7);
        due("whatever the goal", x.spread(0, 1), 1);
    }

    /** Asked for in one leap, before anything nearer is known. */
    private static void spreadByTheMostSteps() {
        sentence("spread: by so many steps of a measure (as many as there can be)");
        TwoEndSearch round = new TwoEndSearch(8);
        newRound(round, 0, 1, 2, 3, 4);
        round(round, 0, 5, 6, 7);
        due("by fourteen of one move", round.spread(0, 14), 1);
        due("by fifteen", round.spread(0, 15), 0);
        TwoEndSearch x = new TwoEndSearch(8);
        newRound(x, 0, 1, 2, 3, 4, 5, 6, 7);
        newRound(x, 0, 1);
        due("by one more in powers", x.spread(1, 25), 0);
        due("by the most in powers", x.spread(1, 24) > 0, true);
        due("by the most", x.spread(0, 35) > 0, true);
        due("by one more", x.spread(0, 36), 0);
        due("the most", x.deepest(0), 35);
        due("the most in powers", x.deepest(1), 24);
    }

    private static void spreadBehindTheLast() {
        sentence("spread: by so many steps of a measure (more than there can be)");
        for (int measure = 0; measure < 2; measure++) {
            for (boolean known : new boolean[] {false, true}) {
                TwoEndSearch x = new TwoEndSearch(5);
                newRound(x, 0, 1, 2, 3, 4);
                newRound(x, 0, 1);
                if (known) {
                    x.deepest(measure);
                }
                for (int steps : new int[] {GREATEST, GREATEST - 1, 1 << 16, 40320, 121, 120, 119}) {
                    due("by " + steps, x.spread(measure, steps), 0);
                }
                int last = x.deepest(measure);
                due("by one more than the deepest", x.spread(measure, last + 1), 0);
                due("by the deepest", x.spread(measure, last) > 0, true);
                due("by none", x.spread(measure, 0), 1);
            }
        }
    }

    private static void spreadOfNoMeasure() {
        sentence("spread: -1 when the measure is not 0 or 1");
        for (int stray : NO_MEASURE) {
            for (int steps : new int[] {0, 1, GREATEST, -1, LEAST}) {
                dueNothingDone("spread of measure " + stray, x -> x.spread(stray, steps), -1);
            }
        }
    }

    private static void spreadBelow0() {
        sentence("spread: -1 when .. the number is below 0.");
        for (int steps : BELOW_0) {
            for (int measure = 0; measure < 2; measure++) {
                int one = measure;
                dueNothingDone("spread by " + steps, x -> x.spread(one, steps), -1);
            }
        }
    }

    // Promise 10.

    private static void deepestOfOneState() {
        sentence("The least number of steps of a measure by which all states that can be come to from"
            + " THE START can be");
        for (int measure = 0; measure < 2; measure++) {
            for (int places = 1; places <= 8; places++) {
                TwoEndSearch x = new TwoEndSearch(places);
                due("without moves", x.deepest(measure), 0);
                x.move();
                due("with a move that leaves everything", x.deepest(measure), 0);
                for (int to = 1; to < places; to++) {
                    due("cycle", x.cycle(0, 0, to), true);
                }
                int last = measure == 0 ? places - 1 : Math.min(1, places - 1);
                due("of a round of " + places, x.deepest(measure), last);
                for (int place = 0; place < places; place++) {
                    due("label", x.label(false, place, 7), true);
                }
                due("of equal labels", x.deepest(measure), 0);
            }
        }
    }

    private static void deepestOfThoseThatCanBe() {
        sentence("all states that can be come to from THE START");
        TwoEndSearch x = new TwoEndSearch(4);
        newRound(x, 0, 1, 2);
        newRound(x, 1, 2, 3);
        int half = 0;
        for (int steps = 0; steps <= x.deepest(0); steps++) {
            half += x.spread(0, steps);
        }
        due("half of all states", half, 12);
        due("whatever the goal", x.label(true, 0, 1), true);
        due("a goal that cannot be come to", x.run(0, GREATEST), -1);
        due("behind that search", x.spread(0, x.deepest(0) + 1), 0);
        TwoEndSearch apart = new TwoEndSearch(8);
        newRound(apart, 0, 1);
        newRound(apart, 2, 3);
        newRound(apart, 4, 5);
        newRound(apart, 6, 7);
        due("four swaps", apart.deepest(0), 4);
        due("four swaps in powers", apart.deepest(1), 4);
        due("two of a label at the start", apart.label(false, 0, 1), true);
        due("three swaps that show", apart.deepest(0), 3);
        due("a goal's label", apart.label(true, 2, 3), true);
        due("three still", apart.deepest(1), 3);
        due("a swap more", apart.cycle(0, 0, 2), true);
        due("deeper", apart.deepest(0) > 3, true);
    }

    private static void deepestOfNoMeasure() {
        sentence("deepest: -1 when the measure is not 0 or 1.");
        for (int stray : NO_MEASURE) {
            dueNothingDone("deepest of measure " + stray, x -> x.deepest(stray), -1);
        }
    }

    // Promise 11.

    private static TwoEndSearch replayed() {
        TwoEndSearch x = twoMoves();
        due("a move that leaves everything", x.move(), 2);
        goal(x, 0, 1, 2, 3);
        return x;
    }

    private static void replayLowestFirst() {
        sentence("row, in base 8, has them as digits, the lowest one first");
        TwoEndSearch x = replayed();
        goal(x, 2, 0, 3, 1);
        due("0, then 1", x.replay(0710), true);
        due("1, then 0", x.replay(0701), false);
        goal(x, 3, 0, 1, 2);
        due("0, then 1, other goal", x.replay(0710), false);
        due("1, then 0, other goal", x.replay(0701), true);
        due("the same with 2 between", x.replay(0720212), true);
        due("replay finds nothing", x.ways(), 0);
        dueNothingDone("replay", y -> bit(y.replay(077)), 0);
        dueNothingDone("a row that leads to no goal", () -> new TwoEndSearch(4), y -> bit(y.replay(070)), 0);
    }

    private static void replayFirst7() {
        sentence("the first digit 7 ends it.");
        TwoEndSearch x = replayed();
        due("no moves done", x.replay(07), true);
        due("a 7 above the first", x.replay(077), false);
        due("a 7 above the first and a move", x.replay(0772), false);
        due("three times move 0", x.replay(07000), true);
        due("twice move 0", x.replay(0700), false);
        due("twice move 1", x.replay(0711), true);
        goal(x, 2, 0, 1, 3);
        due("no moves done, another goal", x.replay(07), false);
        due("move 0 once", x.replay(070), true);
        due("move 0 behind the 7", x.replay(07), false);
        due("of no moves at all", new TwoEndSearch(3).replay(07), true);
    }

    private static void replayLongest() {
        sentence("the first digit 7 ends it (the highest digit that a long has)");
        TwoEndSearch x = replayed();
        due("twenty times move 2", x.replay(0722222222222222222222L), true);
        due("twenty times move 1", x.replay(0711111111111111111111L), true);
        due("nineteen times move 1", x.replay(0721111111111111111111L), false);
        due("twenty times move 0", x.replay(0700000000000000000000L), false);
        due("eighteen times move 0", x.replay(0722000000000000000000L), true);
        goal(x, 0, 1, 3, 2);
        due("move 1 as the last of twenty", x.replay(0712222222222222222222L), true);
        due("move 1 as the first of twenty", x.replay(0722222222222222222221L), true);
        due("not one of twenty", x.replay(0722222222222222222222L), false);
    }

    private static void replayWithout7() {
        sentence("False also when it has none");
        TwoEndSearch x = replayed();
        due("0", x.replay(0), false);
        due("2", x.replay(02), false);
        due("1 twice", x.replay(011), false);
        due("2 twice", x.replay(022), false);
        due("6", x.replay(06), false);
        due("6 above 2", x.replay(062), false);
        due("21 digits", x.replay(0222222222222222222222L), false);
        due("21 digits with 1 twice", x.replay(0112222222222222222222L), false);
        due("without moves", new TwoEndSearch(4).replay(0), false);
        dueNothingDone("a row without end", BoundaryTest::foundEmpty, y -> bit(y.replay(011)), 0);
    }

    private static void replayWithMoreAbove() {
        sentence("False also when .. something stands above it");
        TwoEndSearch x = replayed();
        for (int shift = 3; shift < 63; shift++) {
            due("a bit above the 7, " + shift, x.replay(7 | 1L << shift), false);
        }
        for (int shift = 6; shift < 63; shift += 3) {
            due("a bit above 72, " + shift, x.replay(072 | 1L << shift), false);
            due("a 7 above 72, " + shift, x.replay(072 | 7L << shift), false);
        }
        due("above the twentieth digit", x.replay(0272222222222222222222L), false);
        due("a 7 above the twentieth digit", x.replay(0772222222222222222222L), false);
        due("nothing above the twentieth digit", x.replay(072222222222222222222L), true);
        due("the greatest row", x.replay(Long.MAX_VALUE), false);
        due("nothing above", x.replay(072), true);
    }

    private static void replayBelow0() {
        sentence("False also when .. row is below 0");
        TwoEndSearch x = replayed();
        long least = Long.MIN_VALUE;
        for (long row : new long[] {-1, -2, -7, -8, -9, -58, -072, -0711, -07000, least, least + 1, least | 07,
            least | 072, least | 0711, least | 0722222222222222222222L, least | 0222222222222222222222L,
            ~0700L, 072 - 0100, 07 - 010, 07 | -1L << 60}) {
            due("row " + row, x.replay(row), false);
        }
        dueNothingDone("a row below 0", y -> bit(y.replay(-7)), 0);
    }

    private static void replayOfNoMove() {
        sentence("False also when .. a move is none.");
        for (int count = 0; count <= 6; count++) {
            TwoEndSearch x = new TwoEndSearch(3);
            for (int number = 0; number < count; number++) {
                due("a move that leaves everything", x.move(), number);
            }
            for (int digit = 0; digit < 7; digit++) {
                due("move " + digit + " of " + count, x.replay(070 | digit), digit < count);
                if (count > 0) {
                    due("behind another, move " + digit + " of " + count, x.replay(0700 | digit << 3), digit < count);
                    due("before another, move " + digit + " of " + count, x.replay(0700 | digit), digit < count);
                }
            }
            due("none at all of " + count, x.replay(07), true);
        }
        dueNothingDone("a move that is none", y -> bit(y.replay(0766)), 0);
    }

    // Promise 12.

    private static void clearDropsMoves() {
        sentence("No moves any more");
        for (Maker maker : makers()) {
            TwoEndSearch x = maker.make();
            x.clear();
            dueNoMoves(x);
            due("as a new object's", x.run(1, 0), 0);
            for (int number = 0; number < 6; number++) {
                due("numbers from 0 on", x.move(), number);
                due("a move that leaves everything", x.order(number), 1);
                due("leads nowhere", x.spread(0, 1), 0);
                due("is done", x.replay(070 | number), true);
            }
            due("a seventh", x.move(), -1);
            due("every place is left", x.cycle(0, 2, 1), true);
            due("order", x.order(0), 2);
        }
        TwoEndSearch full = sixMoves();
        due("full", full.move(), -1);
        full.clear();
        full.clear();
        due("empty, behind two clears", full.move(), 0);
    }

    private static void clearOfStates() {
        sentence("THE START and THE GOAL as at first.");
        for (boolean goal : new boolean[] {false, true}) {
            for (int places = 1; places <= 8; places++) {
                TwoEndSearch x = new TwoEndSearch(places);
                for (int place = 0; place < places; place++) {
                    due("start's label", x.label(false, place, 7 - place), true);
                    due("goal's label", x.label(true, place, (place + 3) % 8), true);
                }
                x.clear();
                due("start and goal alike", x.replay(7), true);
                for (int place = 0; place < places; place++) {
                    due("label as at first", x.label(goal, place, place), true);
                    due("nothing changes by it", x.run(0, 0), 0);
                }
            }
        }
        for (Maker maker : makers()) {
            TwoEndSearch x = maker.make();
            x.label(false, 0, 6);
            x.clear();
            x.run(0, 0);
            TwoEndSearch fresh = new TwoEndSearch(4);
            fresh.run(0, 0);
            dueAlike("as a new object", x, fresh);
        }
    }

    private static void clearKeepsPlaces() {
        sentence("clear: (as many places as before)");
        for (int places = 1; places <= 8; places++) {
            TwoEndSearch x = new TwoEndSearch(places);
            x.clear();
            duePlaces(x, places);
            x.clear();
            duePlaces(x, places);
        }
    }

    // What it is.

    /** All answers up to the last one that is promised, each dear one anew. */
    private static void mostCalls() {
        sentence("An object is used for at most 512 calls after it has been made");
        TwoEndSearch x = new TwoEndSearch(8);
        newRound(x, 0, 1);
        newRound(x, 0, 1, 2, 3, 4, 5, 6, 7);
        goal(x, 1, 0);
        int calls = 2 + 8 + 2;
        while (calls < 512) {
            calls++;
            due("call " + calls, oneOfMany(x, calls % 6), new long[] {1, 1, 35, 1, 1, 0}[calls % 6]);
        }
        due("the last call was a search", 512 % 6, 2);
        due("all calls were made", calls, 512);
    }

    private static long oneOfMany(TwoEndSearch x, int call) {
        return switch (call) {
            case 0 -> bit(x.label(false, 0, 0));
            case 1 -> x.run(0, 99);
            case 2 -> x.deepest(0);
            case 3 -> x.ways();
            case 4 -> x.step(0, true);
            default -> x.step(0, false);
        };
    }
}
