import java.math.BigInteger;
import java.util.Arrays;

/**
 * Moves of which it is known from elsewhere how far states lie, and by how many shortest rows: no
 * search of the test's own stands behind these numbers, as one does in DefinitionTest.
 */
public final class KnownNumbersTest {
    private static int wrong = 0;
    private static int asked = 0;

    private static void due(String what, long got, long want) {
        asked++;
        if (got != want) {
            wrong++;
            System.out.println(what + " answered " + got + ", due is " + want);
        }
    }

    private static void due(String what, boolean got, boolean want) {
        due(what, got ? 1 : 0, want ? 1 : 0);
    }

    public static void main(String[] args) {
        neighbours();
        neighboursWithTwoLabels();
        allSwapsOfFour();
        starSwaps();
        pancakes();
        roundsBesideEachOther();
        polygon();
        System.out.println(asked + " answers asked, " + wrong + " wrong");
        if (wrong != 0) {
            System.exit(1);
        }
    }

    private static int swap(TwoEndSearch x, int one, int other) {
        int move = x.move();
        due("a swap", x.cycle(move, one, other), true);
        return move;
    }

    /** What is at each of the places goes to the next one of them, from the last to the first. */
    private static int round(TwoEndSearch x, int move, int first, int many) {
        for (int next = first + many - 1; next > first; next--) {
            due("a round", x.cycle(move, first, next), true);
        }
        return move;
    }

    private static void goal(TwoEndSearch x, int... labels) {
        for (int place = 0; place < labels.length; place++) {
            due("a label of the goal", x.label(true, place, labels[place]), true);
        }
    }

    private static void start(TwoEndSearch x, int... labels) {
        for (int place = 0; place < labels.length; place++) {
            due("a label of the start", x.label(false, place, labels[place]), true);
        }
    }

    /** So many states in each number of steps, none behind the last. */
    private static void dueLayers(String of, TwoEndSearch x, int measure, int... layers) {
        for (int steps = 0; steps < layers.length; steps++) {
            due(of + ": spread(" + measure + ", " + steps + ")", x.spread(measure, steps), layers[steps]);
        }
        due(of + ": spread behind the last", x.spread(measure, layers.length), 0);
        due(of + ": deepest(" + measure + ")", x.deepest(measure), layers.length - 1);
    }

    private static void dueRun(String of, TwoEndSearch x, int measure, int steps, long ways) {
        if (steps > 0) {
            due(of + ": run(" + measure + ", one too few)", x.run(measure, steps - 1), -1);
            due(of + ": ways() of none", x.ways(), 0);
        }
        due(of + ": run(" + measure + ", just so many)", x.run(measure, steps), steps);
        due(of + ": ways()", x.ways(), ways);
    }

    /** Moves and times by turns; nothing is before them or behind them. */
    private static void dueRow(String of, TwoEndSearch x, int... movesAndTimes) {
        int steps = movesAndTimes.length / 2;
        for (int k = 0; k < steps; k++) {
            due(of + ": step(" + k + ", false)", x.step(k, false), movesAndTimes[2 * k]);
            due(of + ": step(" + k + ", true)", x.step(k, true), movesAndTimes[2 * k + 1]);
        }
        due(of + ": no step before", x.step(-1, false), -1);
        due(of + ": no step behind", x.step(steps, false), -1);
    }

    private static TwoEndSearch neighbourSwaps(int places) {
        TwoEndSearch x = new TwoEndSearch(places);
        for (int place = 0; place + 1 < places; place++) {
            due("its number", swap(x, place, place + 1), place);
        }
        return x;
    }

    /** (1 + q + .. + q^(each - 1)) for each one, multiplied: the coefficients. */
    private static int[] productOfRows(int... each) {
        int[] product = {1};
        for (int many : each) {
            int[] longer = new int[product.length + many - 1];
            for (int i = 0; i < product.length; i++) {
                for (int j = 0; j < many; j++) {
                    longer[i + j] += product[i];
                }
            }
            product = longer;
        }
        return product;
    }

    /**
     * By swaps of neighbours a state lies as many steps away as it has pairs in the wrong order; the
     * rows to the state in reverse are as many as standard tableaux of the form of a staircase.
     */
    private static void neighbours() {
        for (int places = 1; places <= 7; places++) {
            String of = places + " places, neighbours";
            TwoEndSearch x = neighbourSwaps(places);
            int[] reverse = new int[places];
            int[] each = new int[places];
            for (int place = 0; place < places; place++) {
                reverse[place] = places - 1 - place;
                each[place] = place + 1;
            }
            goal(x, reverse);
            for (int measure = 0; measure < 2; measure++) {
                dueLayers(of, x, measure, productOfRows(each));
                dueRun(of, x, measure, places * (places - 1) / 2, tableauxOfAStaircase(places));
                dueRow(of, x, leastRowToTheReverse(places));
            }
        }
    }

    /** The hook formula: cells ! over all hooks, of which 2 * i - 1 is there places - i times. */
    private static long tableauxOfAStaircase(int places) {
        BigInteger number = BigInteger.ONE;
        for (int cells = 2; cells <= places * (places - 1) / 2; cells++) {
            number = number.multiply(BigInteger.valueOf(cells));
        }
        for (int i = 1; i < places; i++) {
            number = number.divide(BigInteger.valueOf(2 * i - 1).pow(places - i));
        }
        return number.longValueExact();
    }

    /** 0, 1 0, 2 1 0, and so on: what is put in order already can only be left by the next swap. */
    private static int[] leastRowToTheReverse(int places) {
        int[] row = new int[places * (places - 1)];
        int at = 0;
        for (int last = 0; last + 1 < places; last++) {
            for (int move = last; move >= 0; move--) {
                row[at] = move;
                row[at + 1] = 1;
                at += 2;
            }
        }
        return row;
    }

    /** The rows that bring all of one label past all of the other: standard tableaux of a rectangle. */
    private static void neighboursWithTwoLabels() {
        dueTwoLabels(1, 6, 1);
        dueTwoLabels(2, 2, 2);
        dueTwoLabels(2, 5, 42);
        dueTwoLabels(3, 3, 42);
        dueTwoLabels(3, 4, 462);
        dueTwoLabels(4, 3, 462);
    }

    private static void dueTwoLabels(int ones, int others, long tableaux) {
        String of = ones + " labels past " + others;
        int places = ones + others;
        TwoEndSearch x = neighbourSwaps(places);
        int[] first = new int[places];
        int[] last = new int[places];
        for (int place = 0; place < places; place++) {
            first[place] = place < ones ? 7 : 3;
            last[place] = place < others ? 3 : 7;
        }
        start(x, first);
        goal(x, last);
        int[] layers = new int[ones * others + 1];
        for (int chosen = 0; chosen < 1 << places; chosen++) {
            if (Integer.bitCount(chosen) == ones) {
                layers[pairsOutOfOrder(chosen, places)]++;
            }
        }
        for (int measure = 0; measure < 2; measure++) {
            dueLayers(of, x, measure, layers);
            dueRun(of, x, measure, ones * others, tableaux);
            due(of + ": the first that can move", x.step(0, false), ones - 1);
        }
    }

    private static int pairsOutOfOrder(int chosen, int places) {
        int pairs = 0;
        int others = 0;
        for (int place = 0; place < places; place++) {
            if ((chosen >> place & 1) == 0) {
                others++;
            } else {
                pairs += others;
            }
        }
        return pairs;
    }

    /** A state lies as many steps away as it has places less rounds; n^(n - 2) rows make a round of n. */
    private static void allSwapsOfFour() {
        TwoEndSearch x = new TwoEndSearch(4);
        for (int one = 0; one < 4; one++) {
            for (int other = one + 1; other < 4; other++) {
                swap(x, one, other);
            }
        }
        for (int measure = 0; measure < 2; measure++) {
            dueLayers("all swaps", x, measure, 1, 6, 11, 6);
            goal(x, 1, 2, 3, 0);
            dueRun("a round of four", x, measure, 3, 16);
            goal(x, 1, 2, 0, 3);
            dueRun("a round of three", x, measure, 2, 3);
            goal(x, 1, 0, 3, 2);
            dueRun("two pairs", x, measure, 2, 2);
            dueRow("two pairs", x, 0, 1, 5, 1);
        }
    }

    /** The star graphs: the first place changes with any other one. */
    private static void starSwaps() {
        int[][] known = {
            {1, 3, 6, 9, 5},
            {1, 4, 12, 30, 44, 26, 3},
            {1, 5, 20, 70, 170, 250, 169, 35},
            {1, 6, 30, 135, 460, 1110, 1689, 1254, 340, 15},
        };
        for (int places = 4; places <= 7; places++) {
            TwoEndSearch x = new TwoEndSearch(places);
            for (int other = 1; other < places; other++) {
                swap(x, 0, other);
            }
            dueLayers("star of " + places, x, 0, known[places - 4]);
            dueLayers("star of " + places, x, 1, known[places - 4]);
            x.label(true, 1, 2);
            x.label(true, 2, 1);
            dueRun("two others change", x, 0, 3, 2);
            dueRow("two others change", x, 0, 1, 1, 1, 0, 1);
        }
    }

    /** Turning over the top of a pile of pancakes. */
    private static void pancakes() {
        int[][] known = {
            {1, 3, 6, 11, 3},
            {1, 4, 12, 35, 48, 20},
            {1, 5, 20, 79, 199, 281, 133, 2},
            {1, 6, 30, 149, 543, 1357, 1903, 1016, 35},
        };
        for (int places = 4; places <= 7; places++) {
            TwoEndSearch x = new TwoEndSearch(places);
            for (int top = 2; top <= places; top++) {
                int move = x.move();
                for (int place = 0; place < top / 2; place++) {
                    x.cycle(move, place, top - 1 - place);
                }
            }
            dueLayers("pancakes " + places, x, 0, known[places - 4]);
            dueLayers("pancakes " + places, x, 1, known[places - 4]);
        }
    }

    /** Rounds that have no place in common: each is as far back as its own steps, in any order. */
    private static void roundsBesideEachOther() {
        dueRounds(new int[] {3, 3, 2}, new int[] {1, 5, 8, 4}, 30);
        dueRounds(new int[] {4, 4}, new int[] {1, 6, 9}, 20);
        dueRounds(new int[] {5, 3}, new int[] {1, 6, 8}, 15);
        dueRounds(new int[] {2, 2, 2, 2}, new int[] {1, 4, 6, 4, 1}, 24);
        dueRounds(new int[] {8}, new int[] {1, 7}, 1);
    }

    private static void dueRounds(int[] rounds, int[] layersOfPowers, long waysOnce) {
        TwoEndSearch x = new TwoEndSearch(8);
        int first = 0;
        int steps = 0;
        int orders = 1;
        int[] once = new int[16];
        int[] powers = new int[2 * rounds.length];
        for (int move = 0; move < rounds.length; move++) {
            int many = rounds[move];
            round(x, x.move(), first, many);
            due("order of a round", x.order(move), many);
            for (int i = 0; i < many; i++) {
                x.label(true, first + i, first + (i + 1) % many);
            }
            for (int i = 1; i < many; i++) {
                once[2 * steps] = move;
                once[2 * steps + 1] = 1;
                steps++;
            }
            powers[2 * move] = move;
            powers[2 * move + 1] = many - 1;
            orders *= move + 1;
            first += many;
        }
        String of = rounds.length + " rounds, the first of " + rounds[0];
        dueLayers(of, x, 0, productOfRows(rounds));
        dueLayers(of, x, 1, layersOfPowers);
        dueRun(of, x, 0, steps, waysOnce);
        dueRow(of, x, Arrays.copyOf(once, 2 * steps));
        dueRun(of, x, 1, rounds.length, orders);
        dueRow(of, x, powers);
    }

    /**
     * Eight corners, turned by one (move 0) or mirrored (move 1): 16 states. Turned by a is a steps
     * away, or, mirrored before and behind, 8 - a and two; a mirror image is the mirror with turns
     * before it or behind it.
     */
    private static void polygon() {
        TwoEndSearch x = new TwoEndSearch(8);
        round(x, x.move(), 0, 8);
        int mirror = x.move();
        for (int place = 0; place < 4; place++) {
            x.cycle(mirror, place, 7 - place);
        }
        dueLayers("polygon", x, 0, 1, 2, 3, 4, 4, 2);
        dueLayers("polygon", x, 1, 1, 8, 7);

        goal(x, 3, 4, 5, 6, 7, 0, 1, 2);
        dueRun("turned by five", x, 0, 5, 2);
        dueRow("turned by five", x, 0, 1, 0, 1, 0, 1, 0, 1, 0, 1);
        dueRun("turned by five", x, 1, 1, 1);
        dueRow("turned by five", x, 0, 5);
        due("five turns", x.replay(0700000), true);
        due("mirror, three turns, mirror", x.replay(0710001), true);

        goal(x, 2, 3, 4, 5, 6, 7, 0, 1);
        dueRun("turned by six", x, 0, 4, 1);
        dueRow("turned by six", x, 1, 1, 0, 1, 0, 1, 1, 1);

        goal(x, 3, 2, 1, 0, 7, 6, 5, 4);
        dueRun("mirrored, turned by four", x, 0, 5, 2);
        dueRow("mirrored, turned by four", x, 0, 1, 0, 1, 0, 1, 0, 1, 1, 1);
        dueRun("mirrored, turned by four", x, 1, 2, 2);
        dueRow("mirrored, turned by four", x, 0, 4, 1, 1);

        goal(x, 0, 7, 6, 5, 4, 3, 2, 1);
        dueRun("mirrored, then turned by one", x, 0, 2, 1);
        dueRow("mirrored, then turned by one", x, 1, 1, 0, 1);
        dueRun("mirrored, then turned by one", x, 1, 2, 2);
        dueRow("mirrored, then turned by one: seven turns, mirrored", x, 0, 7, 1, 1);
    }
}
