import java.util.Random;

/**
 * Runs of chosen calls beside a model that follows the document's words one by one, without cutting off or keeping
 * anything. The seeds are written out, so that each run is the same every time.
 */
public final class ModelTest {
    private static final int RUNS = 10000;
    private static final int CHANGES = 200;
    private static final int MOST_CALLS = 512;
    private static int wrong = 0;
    private static int valued = 0;
    private static final int[] defectsSeen = new int[7];

    /** The document's terms, written plainly. */
    private static final class Model {
        int[][] goals = {{50, 50}};
        int[][] moves = {null};
        int[][] to = {null};

        void states(int n) {
            if (n < 1 || n > 60) {
                throw new IllegalArgumentException();
            }
            goals = new int[n][];
            moves = new int[n][];
            to = new int[n][];
            for (int i = 0; i < n; i++) {
                goals[i] = new int[] {50, 50};
            }
        }

        void state(int n) {
            if (n < 0 || n >= goals.length) {
                throw new IndexOutOfBoundsException();
            }
        }

        void end(int n, int first, int second) {
            state(n);
            if (Math.min(first, second) < -2 || Math.max(first, second) > 100) {
                throw new IllegalArgumentException();
            }
            goals[n] = new int[] {first, second};
            moves[n] = null;
            to[n] = null;
        }

        void open(int n, int first, int second) {
            state(n);
            if (Math.min(first, second) < 0 || Math.max(first, second) > 12 || first * second > 12) {
                throw new IllegalArgumentException();
            }
            goals[n] = null;
            moves[n] = new int[] {first, second};
            to[n] = new int[first * second];
        }

        int next(int n, int j) {
            state(n);
            if (to[n] == null || j < 0 || j >= to[n].length) {
                throw new IndexOutOfBoundsException();
            }
            return to[n][j];
        }

        void link(int n, int j, int target) {
            next(n, j);
            state(target);
            to[n][j] = target;
        }

        void visit(int n, boolean[] seen) {
            if (to[n] != null) {
                for (int target : to[n]) {
                    if (!seen[target]) {
                        seen[target] = true;
                        visit(target, seen);
                    }
                }
            }
        }

        boolean[] reachedOnes() {
            boolean[] seen = new boolean[goals.length];
            seen[0] = true;
            visit(0, seen);
            return seen;
        }

        int reached() {
            int number = 0;
            for (boolean one : reachedOnes()) {
                number += one ? 1 : 0;
            }
            return number;
        }

        int defectOf(int n) {
            if (moves[n] != null) {
                boolean none = moves[n][0] == 0 || moves[n][1] == 0;
                return none ? 2 : moves[n][0] > 1 && moves[n][1] > 1 ? 3 : 0;
            }
            return goals[n][0] < 0 || goals[n][1] < 0 ? 4 : goals[n][0] + goals[n][1] != 100 ? 5 : 0;
        }

        int defect(int what) {
            if (what < 0 || what > 1) {
                throw new IllegalArgumentException();
            }
            boolean[] reached = reachedOnes();
            for (int n = 0; n < reached.length; n++) {
                if (reached[n] && defectOf(n) != 0) {
                    return what == 0 ? defectOf(n) : n;
                }
            }
            for (int n = 0; n < reached.length; n++) {
                boolean[] seen = new boolean[reached.length];
                visit(n, seen);
                if (reached[n] && seen[n]) {
                    return what == 0 ? 6 : n;
                }
            }
            return what == 0 ? 0 : -1;
        }

        /** The values, or the lengths, of a state and all behind it, each worked out once. */
        int worth(int n, boolean asLength, Integer[] known) {
            if (known[n] == null) {
                known[n] = to[n] == null ? (asLength ? 0 : goals[n][0]) : worthOfOpen(n, asLength, known);
            }
            return known[n];
        }

        int worthOfOpen(int n, boolean asLength, Integer[] known) {
            int most = Integer.MIN_VALUE;
            int least = Integer.MAX_VALUE;
            for (int target : to[n]) {
                most = Math.max(most, worth(target, asLength, known));
                least = Math.min(least, worth(target, asLength, known));
            }
            return asLength ? most + 1 : moves[n][0] > 1 ? most : least;
        }

        void valued(int n) {
            if (defect(0) != 0) {
                throw new IllegalStateException();
            }
            state(n);
            if (!reachedOnes()[n]) {
                throw new IndexOutOfBoundsException();
            }
        }

        int value(int n) {
            valued(n);
            return worth(n, false, new Integer[goals.length]);
        }

        int best(int n) {
            valued(n);
            Integer[] known = new Integer[goals.length];
            for (int j = 0; to[n] != null && j < to[n].length; j++) {
                if (worth(to[n][j], false, known) == worth(n, false, known)) {
                    return j;
                }
            }
            return -1;
        }

        int length(int n) {
            valued(n);
            return worth(n, true, new Integer[goals.length]);
        }
    }

    private static final String[] NAMES =
        {"states", "end", "open", "link", "next", "reached", "defect", "value", "best", "length"};

    private static int ofGraph(GameGraph x, int call, int a, int b, int c) {
        switch (call) {
            case 0 -> x.states(a);
            case 1 -> x.end(a, b, c);
            case 2 -> x.open(a, b, c);
            case 3 -> x.link(a, b, c);
            default -> {
                return askGraph(x, call, a, b);
            }
        }
        return 0;
    }

    private static int askGraph(GameGraph x, int call, int a, int b) {
        return switch (call) {
            case 4 -> x.next(a, b);
            case 5 -> x.reached();
            case 6 -> x.defect(a);
            case 7 -> x.value(a);
            case 8 -> x.best(a);
            default -> x.length(a);
        };
    }

    private static int ofModel(Model m, int call, int a, int b, int c) {
        switch (call) {
            case 0 -> m.states(a);
            case 1 -> m.end(a, b, c);
            case 2 -> m.open(a, b, c);
            case 3 -> m.link(a, b, c);
            default -> {
                return askModel(m, call, a, b);
            }
        }
        return 0;
    }

    private static int askModel(Model m, int call, int a, int b) {
        return switch (call) {
            case 4 -> m.next(a, b);
            case 5 -> m.reached();
            case 6 -> m.defect(a);
            case 7 -> m.value(a);
            case 8 -> m.best(a);
            default -> m.length(a);
        };
    }

    private static final class Run {
        final int seed;
        final Random random;
        final GameGraph graph = new GameGraph();
        final Model model = new Model();
        int calls = 0;

        Run(int seed) {
            this.seed = seed;
            random = new Random(seed);
        }

        /** What an object answers to more calls is free, so a run that has had them all goes on without any. */
        void call(int call, int a, int b, int c) {
            if (calls == MOST_CALLS) {
                return;
            }
            calls++;
            String got;
            String want;
            try {
                got = Integer.toString(ofGraph(graph, call, a, b, c));
            } catch (RuntimeException e) {
                got = e.getClass().getName();
            }
            try {
                want = Integer.toString(ofModel(model, call, a, b, c));
                valued += call == 7 ? 1 : 0;
            } catch (RuntimeException e) {
                want = e.getClass().getName();
            }
            if (!got.equals(want)) {
                wrong++;
                System.out.println("run " + seed + ": " + NAMES[call] + " of " + a + ", " + b + ", " + c + " answered "
                    + got + ", due is " + want);
            }
        }

        int from(int least, int most) {
            return least + random.nextInt(most - least + 1);
        }

        /** A graph whose moves go on to later places, mostly without a defect. */
        void layOut(int states) {
            call(0, states, 0, 0);
            int[] numbers = numbersOfPlaces(states);
            int kindOfGoals = from(0, 2);
            for (int place = 0; place < states; place++) {
                if (place + 1 < states && from(0, 9) < 7) {
                    layOutOpen(place, numbers);
                } else {
                    int goal = kindOfGoals == 0 ? from(0, 100) : kindOfGoals == 1 ? from(48, 52) : 100 * from(0, 1);
                    call(1, numbers[place], goal, 100 - goal);
                }
            }
        }

        /** In every other run the numbers behind state 0 are mixed, so that moves go to greater and to lesser ones. */
        int[] numbersOfPlaces(int states) {
            int[] numbers = new int[states];
            for (int place = 0; place < states; place++) {
                int other = seed % 2 == 0 || place == 0 ? place : from(1, place);
                numbers[place] = numbers[other];
                numbers[other] = place;
            }
            return numbers;
        }

        void layOutOpen(int place, int[] numbers) {
            int number = from(1, from(1, 12));
            boolean firstChooses = random.nextBoolean();
            call(2, numbers[place], firstChooses ? number : 1, firstChooses ? 1 : number);
            int farthest = Math.min(numbers.length - 1, place + from(1, 12));
            for (int j = 0; j < number; j++) {
                call(3, numbers[place], j, numbers[from(place + 1, farthest)]);
            }
        }

        void askAll() {
            call(5, 0, 0, 0);
            call(6, 0, 0, 0);
            call(6, 1, 0, 0);
            defectsSeen[model.defect(0)] += calls < MOST_CALLS ? 1 : 0;
            int states = model.goals.length;
            int start = from(0, states - 1);
            int first = from(7, 9);
            for (int i = 0; i < states; i++) {
                for (int k = 0; k < 3; k++) {
                    call(7 + (first - 7 + k) % 3, (start + i) % states, 0, 0);
                }
            }
        }

        /** A change or a question, now and then with arguments just outside of what there is. */
        void any() {
            int states = model.goals.length;
            int n = from(0, 19) == 0 ? from(-2, states + 1) : from(0, states - 1);
            int call = from(1, 9);
            if (call == 1) {
                int goal = from(-3, 101);
                call(1, n, goal, from(0, 9) == 0 ? from(-3, 101) : 100 - goal);
            } else if (call == 2) {
                call(2, n, from(-1, from(1, 13)), from(-1, from(1, 13)));
            } else if (call == 6) {
                call(6, from(-1, 2), 0, 0);
            } else {
                call(call, n, from(-1, from(0, 12)), from(0, 9) == 0 ? from(-1, states) : from(Math.max(0, n), Math.max(n, states - 1)));
            }
        }

        void go() {
            layOut(from(1, seed % 3 == 0 ? 60 : 10));
            askAll();
            for (int i = 0; i < CHANGES; i++) {
                any();
                if (from(0, 15) == 0) {
                    askAll();
                }
                if (from(0, 30) == 0) {
                    layOut(from(1, 10));
                    askAll();
                }
            }
            call(0, from(-1, 62), 0, 0);
            askAll();
        }
    }

    public static void main(String[] args) {
        for (int seed = 1; seed <= RUNS && wrong < 20; seed++) {
            new Run(seed).go();
        }
        boolean allSeen = valued > 0;
        for (int kind : new int[] {0, 2, 3, 4, 5, 6}) {
            allSeen = allSeen && defectsSeen[kind] > 0;
        }
        if (!allSeen) {
            System.out.println("the runs do not meet every kind of defect and a graph without any");
        }
        System.out.println(wrong == 0 ? "all answers are as due, " + valued + " of them values" : wrong + " answers are not as due");
        if (wrong != 0 || !allSeen) {
            System.exit(1);
        }
    }
}
