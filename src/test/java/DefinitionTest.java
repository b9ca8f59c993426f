import java.math.BigInteger;
import java.util.ArrayList;
import java.util.HashMap;
import java.util.List;
import java.util.Map;

/**
 * Long runs of calls, drawn by a fixed rule, on the class and on a model that is written from the
 * document's definitions; where a search is small, all rows are listed one by one besides.
 */
public final class DefinitionTest {
    private static final int PROMISED_CALLS = 512;
    /** No draw makes more: a goal, a search and a row of far less than fifty steps. */
    private static final int CALLS_OF_A_DRAW = 120;
    private static int wrong = 0;
    private static long asked = 0;
    /** Calls on the object of this run. */
    private static int made;
    private static long seed;

    private static int draw(int below) {
        seed = seed * 6364136223846793005L + 1442695040888963407L;
        return (int) Math.floorMod(seed >>> 33, (long) below);
    }

    public static void main(String[] args) {
        for (int run = 0; run < 1500; run++) {
            seed = run;
            oneRun(run, draw(9) - 1, 60 + draw(200));
        }
        for (int run = 0; run < 60; run++) {
            seed = 1_000_000 + run;
            oneRun(run, 6 + draw(2), 100);
        }
        for (int run = 0; run < 12; run++) {
            seed = 2_000_000 + run;
            oneRun(run, 8 + draw(2), 90);
        }
        System.out.println(asked + " answers asked, " + wrong + " wrong");
        if (wrong != 0) {
            System.exit(1);
        }
    }

    private static void due(int run, String call, long got, long want) {
        asked++;
        // Below 0 are the questions that the model puts to itself.
        made += run >= 0 ? 1 : 0;
        if (got != want) {
            wrong++;
            if (wrong <= 40) {
                System.out.println("run " + run + ": " + call + " answered " + got + ", due is " + want);
            }
        }
    }

    private static void oneRun(int run, int places, int calls) {
        TwoEndSearch x = new TwoEndSearch(places);
        Model model = new Model(places);
        made = 0;
        // Few changes where searches are dear, so that many answers come from each.
        int changes = places > 5 ? 4 : 12;
        if (places > 5) {
            calls -= prepare(run, x, model);
        }
        for (int call = 0; call < calls && made <= PROMISED_CALLS - CALLS_OF_A_DRAW; call++) {
            int kind = draw(30);
            if (kind < changes) {
                change(run, x, model, kind);
            } else {
                ask(run, x, model, kind);
            }
        }
    }

    /** Moves that do something, from the start on. */
    private static int prepare(int run, TwoEndSearch x, Model model) {
        int calls = 0;
        for (int move = 0, many = 2 + draw(3); move < many; move++) {
            due(run, "move()", x.move(), model.move());
            for (int i = 0, tries = 2 + draw(8); i < tries; i++) {
                int from = draw(model.places);
                int to = draw(model.places);
                due(run, "cycle", x.cycle(move, from, to) ? 1 : 0, model.cycle(move, from, to) ? 1 : 0);
                calls++;
            }
        }
        return calls;
    }

    private static int stray(int below) {
        return draw(12) == 0 ? new int[] {-1, below, Integer.MIN_VALUE, Integer.MAX_VALUE}[draw(4)] : draw(below);
    }

    private static void change(int run, TwoEndSearch x, Model model, int kind) {
        switch (kind) {
            case 0 -> {
                if (draw(20) == 0) {
                    x.clear();
                    model.clear();
                    made++;
                }
            }
            case 1 -> due(run, "move()", x.move(), model.move());
            case 2, 4, 5, 6 -> {
                int move = stray(Math.max(1, model.moves.size()));
                int from = stray(model.places);
                int to = stray(model.places);
                due(run, "cycle(" + move + ", " + from + ", " + to + ")",
                    x.cycle(move, from, to) ? 1 : 0, model.cycle(move, from, to) ? 1 : 0);
            }
            case 3, 7 -> {
                boolean goal = draw(3) != 0;
                int place = stray(model.places);
                int label = draw(2) == 0 ? stray(8) : stray(2);
                due(run, "label(" + goal + ", " + place + ", " + label + ")",
                    x.label(goal, place, label) ? 1 : 0, model.label(goal, place, label) ? 1 : 0);
            }
            default -> goalFromStart(run, x, model);
        }
    }

    /** A goal with the start's labels, mixed by moves or by chance. */
    private static void goalFromStart(int run, TwoEndSearch x, Model model) {
        int[] mixed = model.start.clone();
        boolean byMoves = !model.moves.isEmpty() && draw(4) != 0;
        for (int i = 0, many = draw(30); i < many; i++) {
            if (byMoves) {
                mixed = Model.bring(model.moves.get(draw(model.moves.size())), mixed);
            } else {
                int a = draw(model.places);
                int b = draw(model.places);
                int kept = mixed[a];
                mixed[a] = mixed[b];
                mixed[b] = kept;
            }
        }
        for (int place = 0; place < model.places; place++) {
            due(run, "label of a goal", x.label(true, place, mixed[place]) ? 1 : 0,
                model.label(true, place, mixed[place]) ? 1 : 0);
        }
    }

    private static void ask(int run, TwoEndSearch x, Model model, int kind) {
        if (kind < 14) {
            int move = stray(6);
            due(run, "order(" + move + ")", x.order(move), model.order(move));
        } else if (kind < 17) {
            goalFromStart(run, x, model);
            askRun(run, x, model, draw(2), 1000);
        } else if (kind < 20) {
            askRun(run, x, model, stray(2), draw(3) == 0 ? stray(8) : 60);
        } else if (kind < 23) {
            int measure = stray(2);
            int steps = stray(12);
            due(run, "spread(" + measure + ", " + steps + ")", x.spread(measure, steps), model.spread(measure, steps));
        } else if (kind < 25) {
            int measure = stray(2);
            due(run, "deepest(" + measure + ")", x.deepest(measure), model.deepest(measure));
        } else if (kind < 28) {
            long row = drawnRow(model);
            due(run, "replay(" + row + ")", x.replay(row) ? 1 : 0, model.replay(row) ? 1 : 0);
        } else {
            askFound(run, x, model);
        }
    }

    private static void askRun(int run, TwoEndSearch x, Model model, int measure, int most) {
        due(run, "run(" + measure + ", " + most + ")", x.run(measure, most), model.run(measure, most));
        askFound(run, x, model);
    }

    private static void askFound(int run, TwoEndSearch x, Model model) {
        due(run, "ways()", x.ways(), model.ways);
        int steps = model.found == null ? 0 : model.found.size();
        for (int k = -1; k <= steps; k++) {
            boolean there = k >= 0 && k < steps;
            due(run, "step(" + k + ", false)", x.step(k, false), there ? model.found.get(k).move : -1);
            due(run, "step(" + k + ", true)", x.step(k, true), there ? model.found.get(k).times : -1);
        }
    }

    /** Often what was found, as replay wants it; else any digits. */
    private static long drawnRow(Model model) {
        if (draw(10) == 0) {
            return seed;
        }
        long row = 7;
        if (model.found != null && draw(3) != 0) {
            for (int k = model.found.size() - 1; k >= 0; k--) {
                for (int times = 0; times < model.found.get(k).times; times++) {
                    row = row * 8 + model.found.get(k).move;
                }
            }
        } else {
            for (int i = 0, many = draw(22); i < many; i++) {
                row = row * 8 + draw(draw(15) == 0 ? 8 : Math.max(1, model.moves.size()));
            }
        }
        return row;
    }

    /** A step: its move, how often, and where it brings what is at each place. */
    private record Step(int move, int times, int[] targets) {
    }

    private static final class Model {
        private static final int FEW_ROWS = 3000;
        final int places;
        final List<int[]> moves = new ArrayList<>();
        int[] start;
        int[] goal;
        List<Step> found;
        long ways;
        private final List<Map<String, Integer>> distances = new ArrayList<>();

        Model(int places) {
            this.places = places < 1 ? 1 : places > 8 ? 8 : places;
            clear();
        }

        void clear() {
            moves.clear();
            start = nothingMoved();
            goal = nothingMoved();
            gone(true);
        }

        private int[] nothingMoved() {
            int[] each = new int[places];
            for (int place = 0; place < places; place++) {
                each[place] = place;
            }
            return each;
        }

        private void gone(boolean distancesToo) {
            found = null;
            ways = 0;
            if (distancesToo) {
                distances.clear();
                distances.add(null);
                distances.add(null);
            }
        }

        int move() {
            if (moves.size() == 6) {
                return -1;
            }
            gone(true);
            moves.add(nothingMoved());
            return moves.size() - 1;
        }

        private boolean isPlace(int place) {
            return place >= 0 && place < places;
        }

        boolean cycle(int move, int from, int to) {
            if (move < 0 || move >= moves.size() || !isPlace(from) || !isPlace(to) || from == to) {
                return false;
            }
            int[] targets = moves.get(move);
            if (targets[to] != to) {
                return false;
            }
            targets[to] = targets[from];
            targets[from] = to;
            gone(true);
            return true;
        }

        int order(int move) {
            if (move < 0 || move >= moves.size()) {
                return 0;
            }
            int[] things = nothingMoved();
            for (int times = 1;; times++) {
                things = bring(moves.get(move), things);
                if (java.util.Arrays.equals(things, nothingMoved())) {
                    return times;
                }
            }
        }

        boolean label(boolean ofGoal, int place, int label) {
            if (!isPlace(place) || label < 0 || label > 7) {
                return false;
            }
            (ofGoal ? goal : start)[place] = label;
            gone(!ofGoal);
            return true;
        }

        static int[] bring(int[] targets, int[] state) {
            int[] after = new int[state.length];
            for (int place = 0; place < state.length; place++) {
                after[targets[place]] = state[place];
            }
            return after;
        }

        private static String text(int[] state) {
            char[] text = new char[state.length];
            for (int place = 0; place < state.length; place++) {
                text[place] = (char) ('0' + state[place]);
            }
            return new String(text);
        }

        private static int[] state(String text) {
            int[] state = new int[text.length()];
            for (int place = 0; place < state.length; place++) {
                state[place] = text.charAt(place) - '0';
            }
            return state;
        }

        /** All steps of a measure, the less ones first. */
        private List<Step> steps(int measure) {
            List<Step> steps = new ArrayList<>();
            for (int move = 0; move < moves.size(); move++) {
                int most = measure == 0 ? 1 : order(move) - 1;
                int[] targets = nothingMoved();
                for (int times = 1; times <= most; times++) {
                    int[] longer = new int[places];
                    for (int place = 0; place < places; place++) {
                        longer[place] = moves.get(move)[targets[place]];
                    }
                    targets = longer;
                    steps.add(new Step(move, times, targets));
                }
            }
            return steps;
        }

        /** From the start to each state that can be come to, in the order of their distances. */
        private Map<String, Integer> distances(int measure) {
            if (distances.get(measure) == null) {
                List<Step> steps = steps(measure);
                Map<String, Integer> all = new java.util.LinkedHashMap<>();
                List<String> layer = List.of(text(start));
                all.put(text(start), 0);
                for (int distance = 1; !layer.isEmpty(); distance++) {
                    List<String> next = new ArrayList<>();
                    for (String from : layer) {
                        for (Step step : steps) {
                            String to = text(bring(step.targets, state(from)));
                            if (all.putIfAbsent(to, distance) == null) {
                                next.add(to);
                            }
                        }
                    }
                    layer = next;
                }
                distances.set(measure, all);
            }
            return distances.get(measure);
        }

        int spread(int measure, int steps) {
            if (measure < 0 || measure > 1 || steps < 0) {
                return -1;
            }
            int states = 0;
            for (int distance : distances(measure).values()) {
                states += distance == steps ? 1 : 0;
            }
            return states;
        }

        int deepest(int measure) {
            if (measure < 0 || measure > 1) {
                return -1;
            }
            int most = 0;
            for (int distance : distances(measure).values()) {
                most = Math.max(most, distance);
            }
            return most;
        }

        int run(int measure, int most) {
            if (measure < 0 || measure > 1 || most < 0) {
                return -2;
            }
            gone(false);
            Integer length = distances(measure).get(text(goal));
            if (length == null || length > most) {
                return -1;
            }
            List<Step> steps = steps(measure);
            Map<String, BigInteger> toGoal = rowsToGoal(measure, steps, length);
            ways = toGoal.get(text(start)).longValue();
            found = leastRow(measure, steps, toGoal);
            if (Math.pow(Math.max(1, steps.size()), length) <= FEW_ROWS) {
                compareWithAllRows(steps, length);
            }
            return length;
        }

        /** How many shortest rows lead on to the goal, from each state that lies on one. */
        private Map<String, BigInteger> rowsToGoal(int measure, List<Step> steps, int length) {
            Map<String, Integer> far = distances(measure);
            List<String> nearFirst = new ArrayList<>(far.keySet());
            Map<String, BigInteger> rows = new HashMap<>();
            rows.put(text(goal), BigInteger.ONE);
            for (int at = nearFirst.size() - 1; at >= 0; at--) {
                String from = nearFirst.get(at);
                if (far.get(from) >= length) {
                    continue;
                }
                BigInteger sum = BigInteger.ZERO;
                for (Step step : steps) {
                    String to = text(bring(step.targets, state(from)));
                    if (far.get(to) == far.get(from) + 1) {
                        sum = sum.add(rows.getOrDefault(to, BigInteger.ZERO));
                    }
                }
                if (sum.signum() != 0) {
                    rows.put(from, sum);
                }
            }
            return rows;
        }

        private List<Step> leastRow(int measure, List<Step> steps, Map<String, BigInteger> toGoal) {
            Map<String, Integer> far = distances(measure);
            List<Step> row = new ArrayList<>();
            String at = text(start);
            while (!at.equals(text(goal))) {
                for (Step step : steps) {
                    String to = text(bring(step.targets, state(at)));
                    if (toGoal.containsKey(to) && far.get(to) == far.get(at) + 1) {
                        row.add(step);
                        at = to;
                        break;
                    }
                }
            }
            return row;
        }

        /** The definition itself: all rows of so many steps, the less ones first. */
        private void compareWithAllRows(List<Step> steps, int length) {
            List<List<Step>> leading = new ArrayList<>();
            for (int shorter = 0; shorter <= length; shorter++) {
                due(-1, "the model's rows of fewer steps", leading.size(), 0);
                listRows(steps, shorter, new ArrayList<>(), start, leading);
            }
            due(-1, "the model's ways", leading.size(), ways);
            for (int k = 0; k < length; k++) {
                due(-1, "the model's move", leading.get(0).get(k).move, found.get(k).move);
                due(-1, "the model's times", leading.get(0).get(k).times, found.get(k).times);
            }
        }

        private void listRows(List<Step> steps, int left, List<Step> row, int[] at, List<List<Step>> leading) {
            if (left == 0) {
                if (java.util.Arrays.equals(at, goal)) {
                    leading.add(new ArrayList<>(row));
                }
                return;
            }
            for (Step step : steps) {
                row.add(step);
                listRows(steps, left - 1, row, bring(step.targets, at), leading);
                row.remove(row.size() - 1);
            }
        }

        boolean replay(long row) {
            String digits = Long.toOctalString(row);
            int[] state = start;
            for (int at = digits.length() - 1; row >= 0 && at >= 0; at--) {
                int digit = digits.charAt(at) - '0';
                if (digit == 7) {
                    return at == 0 && java.util.Arrays.equals(state, goal);
                }
                if (digit >= moves.size()) {
                    return false;
                }
                state = bring(moves.get(digit), state);
            }
            return false;
        }
    }
}
