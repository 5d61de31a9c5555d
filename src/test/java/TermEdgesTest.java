/** The sections "What it is" and "Terms" at their edges: a test for each sentence, or part of one, that names an edge. */
public final class TermEdgesTest extends Checks {
    private static final int[][] PAIRS_OF_GOALS = {{100, 0}, {0, 100}, {51, 50}, {50, 51}, {1, 0}, {0, 1}, {99, 100},
        {100, 99}, {0, 0}, {100, 100}};

    /** The pairs of numbers of moves that open() allows. */
    private interface Pair {
        void of(int first, int second);
    }

    private static void eachPair(Pair pair) {
        for (int first = 0; first <= 12; first++) {
            for (int second = 0; second <= 12; second++) {
                if (first * second <= 12) {
                    pair.of(first, second);
                }
            }
        }
    }

    /** State 0 goes to each of the others, at most twelve, which are ends. */
    private static GameGraph star(int ends) {
        GameGraph x = withStates(ends + 1);
        x.open(0, ends, 1);
        for (int j = 0; j < ends; j++) {
            x.link(0, j, j + 1);
        }
        return x;
    }

    /** State 0 goes by its one joint move to state 1. */
    private static GameGraph before(Call makeOne) {
        GameGraph x = withStates(3);
        open(x, 0, 1, 1, 1);
        makeOne.on(x);
        return x;
    }

    // ---- What it is

    private static void calls512() {
        for (int kind = 0; kind < 4; kind++) {
            GameGraph x = new GameGraph();
            for (int call = 1; call < 512; call++) {
                oneOfMany(x, kind, call);
            }
            due("call 512 behind 511 of kind " + kind + ": value(0)", 50, () -> x.value(0));
            GameGraph y = new GameGraph();
            for (int call = 1; call < 511; call++) {
                oneOfMany(y, kind, call);
            }
            allowed("call 511 behind 510 of kind " + kind + ": end(0, 7, 93)", () -> y.end(0, 7, 93));
            due("call 512 behind 511 of kind " + kind + ": value(0)", 7, () -> y.value(0));
        }
    }

    /** Changes that end as they began, questions, refused calls, and all of these by turns. */
    private static void oneOfMany(GameGraph x, int kind, int call) {
        switch (kind == 3 ? call % 3 : kind) {
            case 0 -> allowed("call " + call + ": states(1)", () -> x.states(1));
            case 1 -> due("call " + call + ": value(0)", 50, () -> x.value(0));
            default -> refused("call " + call + ": states(0)", ARGUMENT, () -> x.states(0));
        }
    }

    private static void none() {
        due("NONE", -1, () -> GameGraph.NONE);
    }

    // ---- Terms: states

    private static void oneTo60States() {
        for (int i = 1; i <= 60; i++) {
            int n = i;
            GameGraph x = new GameGraph();
            allowed("states(" + n + ")", () -> x.states(n));
            allowed("states(" + n + "), end of state " + (n - 1), () -> x.end(n - 1, 50, 50));
            refused("states(" + n + "), end of state " + n, OUT, () -> x.end(n, 50, 50));
        }
        GameGraph x = new GameGraph();
        refused("states(0)", ARGUMENT, () -> x.states(0));
        refused("states(61)", ARGUMENT, () -> x.states(61));
    }

    private static void numberedFrom0() {
        for (int states : new int[] {1, 2, 31, 32, 33, 59, 60}) {
            for (int n : new int[] {0, states - 1}) {
                GameGraph x = withStates(states);
                String name = "of " + states + " states, number " + n;
                allowed(name + ": open", () -> x.open(n, 1, 1));
                allowed(name + ": link", () -> x.link(n, 0, n));
                due(name + ": next", n, () -> x.next(n, 0));
                allowed(name + ": end", () -> x.end(n, 40, 60));
                x.open(0, 1, 1);
                x.link(0, 0, n);
                x.end(n, 40, 60);
                due(name + ": value", 40, () -> x.value(n));
                due(name + ": best", -1, () -> x.best(n));
                due(name + ": length", 0, () -> x.length(n));
            }
            for (int n : new int[] {-1, states}) {
                GameGraph x = withStates(states);
                String name = "of " + states + " states, number " + n;
                refused(name + ": end", OUT, () -> x.end(n, 50, 50));
                refused(name + ": open", OUT, () -> x.open(n, 1, 1));
                x.open(0, 1, 1);
                refused(name + ": link", OUT, () -> x.link(n, 0, 0));
                refused(name + ": link to it", OUT, () -> x.link(0, 0, n));
                due(name + ": next", OUT, () -> x.next(n, 0));
                x.end(0, 50, 50);
                due(name + ": value", OUT, () -> x.value(n));
                due(name + ": best", OUT, () -> x.best(n));
                due(name + ": length", OUT, () -> x.length(n));
            }
        }
    }

    private static void goals0To100() {
        for (int first = 0; first <= 100; first++) {
            for (int second = 0; second <= 100; second++) {
                int one = first;
                int other = second;
                GameGraph x = new GameGraph();
                String name = "end(0, " + one + ", " + other + ")";
                allowed(name, () -> x.end(0, one, other));
                due(name + ": defect(0)", one + other == 100 ? 0 : 5, () -> x.defect(0));
            }
        }
        GameGraph x = new GameGraph();
        refused("end(0, 101, 0)", ARGUMENT, () -> x.end(0, 101, 0));
        refused("end(0, 0, 101)", ARGUMENT, () -> x.end(0, 0, 101));
    }

    private static void goalsNoneAndSeveral() {
        for (int goal : new int[] {-1, -2}) {
            for (int other : new int[] {-2, -1, 0, 50, 100}) {
                GameGraph x = new GameGraph();
                allowed("end(0, " + goal + ", " + other + ")", () -> x.end(0, goal, other));
                dueDefect("end(0, " + goal + ", " + other + ")", x, 4, 0);
                GameGraph y = new GameGraph();
                allowed("end(0, " + other + ", " + goal + ")", () -> y.end(0, other, goal));
                dueDefect("end(0, " + other + ", " + goal + ")", y, 4, 0);
            }
        }
        GameGraph x = new GameGraph();
        refused("end(0, -3, 100)", ARGUMENT, () -> x.end(0, -3, 100));
        refused("end(0, 100, -3)", ARGUMENT, () -> x.end(0, 100, -3));
    }

    private static void moves0To12() {
        for (int i = 0; i <= 12; i++) {
            int moves = i;
            for (int other = 0; other <= 1; other++) {
                int one = other;
                GameGraph x = new GameGraph();
                allowed("open(0, " + moves + ", " + one + ")", () -> x.open(0, moves, one));
                allowed("open(0, " + one + ", " + moves + ")", () -> x.open(0, one, moves));
            }
        }
        for (int moves : new int[] {-1, 13}) {
            for (int other : new int[] {0, 1, 12}) {
                GameGraph x = new GameGraph();
                refused("open(0, " + moves + ", " + other + ")", ARGUMENT, () -> x.open(0, moves, other));
                refused("open(0, " + other + ", " + moves + ")", ARGUMENT, () -> x.open(0, other, moves));
            }
        }
    }

    /** Each joint move up to the last keeps its own target; the one behind is none, and the next state's stay. */
    private static void jointMovesAreTheProduct() {
        eachPair((first, second) -> {
            int product = first * second;
            String name = "open(1, " + first + ", " + second + ")";
            GameGraph x = withStates(14);
            x.open(0, 12, 1);
            x.open(1, first, second);
            x.open(2, 12, 1);
            refused(name + ", link(1, -1)", OUT, () -> x.link(1, -1, 13));
            refused(name + ", link(1, " + product + ")", OUT, () -> x.link(1, product, 13));
            for (int k = 0; k < product; k++) {
                int j = k;
                allowed(name + ", link(1, " + j + ")", () -> x.link(1, j, j + 1));
            }
            for (int k = 0; k < product; k++) {
                int j = k;
                due(name + ", next(1, " + j + ")", j + 1, () -> x.next(1, j));
            }
            due(name + ", next(1, -1)", OUT, () -> x.next(1, -1));
            due(name + ", next(1, " + product + ")", OUT, () -> x.next(1, product));
            for (int k = 0; k < 12; k++) {
                int j = k;
                due(name + ", next(0, " + j + ")", 0, () -> x.next(0, j));
                due(name + ", next(2, " + j + ")", 0, () -> x.next(2, j));
            }
        });
    }

    private static void productAtMost12() {
        for (int first = 0; first <= 12; first++) {
            for (int second = 0; second <= 12; second++) {
                int one = first;
                int other = second;
                GameGraph x = new GameGraph();
                String want = one * other <= 12 ? "0" : ARGUMENT;
                refused("open(0, " + one + ", " + other + ")", want, () -> x.open(0, one, other));
            }
        }
    }

    private static void jointMovesGoToStates() {
        for (int states : new int[] {1, 2, 59, 60}) {
            GameGraph x = withStates(states);
            x.open(0, 1, 1);
            for (int k = 0; k < states; k++) {
                int to = k;
                allowed("of " + states + " states, link(0, 0, " + to + ")", () -> x.link(0, 0, to));
                due("of " + states + " states, next(0, 0)", to, () -> x.next(0, 0));
            }
            refused("of " + states + " states, link(0, 0, -1)", OUT, () -> x.link(0, 0, -1));
            refused("of " + states + " states, link(0, 0, " + states + ")", OUT, () -> x.link(0, 0, states));
        }
    }

    /** A quarter of the states at a time, since 512 calls do not fill them all. */
    private static void allJointMovesOfAllStates() {
        for (int part = 0; part < 4; part++) {
            GameGraph x = withStates(60);
            for (int n = part; n < 60; n += 4) {
                x.open(n, n % 8 < 4 ? 12 : 1, n % 8 < 4 ? 1 : 12);
                for (int j = 0; j < 12; j++) {
                    x.link(n, j, (n * 7 + j * 5) % 60);
                }
            }
            for (int i = part; i < 60; i += 4) {
                for (int k = 0; k < 12; k++) {
                    int n = i;
                    int j = k;
                    due("twelve each: next(" + n + ", " + j + ")", (n * 7 + j * 5) % 60, () -> x.next(n, j));
                }
            }
        }
    }

    // ---- Terms: reached

    private static void state0IsReached() {
        Call[] zeros = {x -> { }, x -> x.end(0, -2, -2), x -> x.open(0, 0, 0), x -> x.open(0, 0, 12), x -> x.open(0, 12, 0),
            x -> x.open(0, 1, 1), x -> x.open(0, 12, 1)};
        for (int states : new int[] {1, 2, 60}) {
            for (int i = 0; i < zeros.length; i++) {
                GameGraph x = withStates(states);
                zeros[i].on(x);
                due("of " + states + " states, 0 alone (" + i + "): reached()", 1, x::reached);
            }
        }
    }

    private static void whatReachedOnesGoToIsReached() {
        eachPair((first, second) -> {
            GameGraph x = withStates(14);
            x.open(0, first, second);
            due("open(0, " + first + ", " + second + "): reached()", 1, x::reached);
            for (int j = 0; j < first * second; j++) {
                x.link(0, j, 13 - j);
                due("open(0, " + first + ", " + second + "), linked up to " + j + ": reached()", j + 2, x::reached);
            }
        });
        for (int states = 1; states <= 60; states++) {
            due("chain of " + states + ": reached()", states, chain(states)::reached);
        }
        GameGraph down = withStates(60);
        open(down, 0, 1, 1, 59);
        for (int n = 59; n > 1; n--) {
            open(down, n, 1, 1, n - 1);
        }
        due("chain from the last state down: reached()", 60, down::reached);
    }

    private static void whatOthersGoToIsNotReached() {
        GameGraph x = withStates(60);
        for (int n = 1; n < 60; n++) {
            open(x, n, 1, 1, n - 1);
        }
        due("all go to 0, 0 to none: reached()", 1, x::reached);
        open(x, 0, 1, 1, 1);
        due("0 goes to 1, 1 to 0: reached()", 2, x::reached);
        x.end(0, 50, 50);
        due("0 an end again: reached()", 1, x::reached);
        GameGraph fewer = star(12);
        due("twelve moves: reached()", 13, fewer::reached);
        open(fewer, 0, 11, 1, 1, 2, 3, 4, 5, 6, 7, 8, 9, 10, 11);
        due("eleven moves: reached()", 12, fewer::reached);
        fewer.open(0, 12, 0);
        due("twelve moves and none: reached()", 1, fewer::reached);
    }

    // ---- Terms: defects

    private static void defectsOfReachedStatesAlone() {
        for (int kind = 2; kind <= 6; kind++) {
            GameGraph x = small();
            putDefect(x, 5, kind);
            x.link(1, 0, 3);
            if (kind == 6) {
                x.link(5, 0, 5);
            }
            dueDefect("defect " + kind + " in a state that is not reached", x, 0, -1);
            x.link(0, 1, 5);
            dueDefect("defect " + kind + " when it is reached", x, kind, 5);
        }
    }

    /** The number of the state comes before the kind of the defect, whichever the two kinds are. */
    private static void defectsInOrderOfNumbers() {
        for (int kind = 2; kind <= 5; kind++) {
            for (int other = 2; other <= 5; other++) {
                GameGraph x = star(12);
                putDefect(x, 11, kind);
                putDefect(x, 12, other);
                dueDefect("defect " + kind + " in 11, " + other + " in 12", x, kind, 11);
                putDefect(x, 1, other);
                dueDefect("defect " + other + " in 1, " + kind + " in 11", x, other, 1);
                x.link(0, 0, 2);
                dueDefect("1 not reached, defect " + kind + " in 11", x, kind, 11);
                putDefect(x, 0, kind);
                dueDefect("defect " + kind + " in 0", x, kind, 0);
            }
        }
    }

    private static void defect2() {
        eachPair((first, second) -> {
            GameGraph x = before(y -> y.open(1, first, second));
            for (int j = 0; j < first * second; j++) {
                x.link(1, j, 2);
            }
            boolean without = first == 0 || second == 0;
            if (without) {
                dueDefect("open(1, " + first + ", " + second + ")", x, 2, 1);
            } else {
                due("open(1, " + first + ", " + second + "): is 2", 0, () -> x.defect(0) == 2 ? 1 : 0);
            }
        });
    }

    private static void defect3() {
        eachPair((first, second) -> {
            GameGraph x = before(y -> y.open(1, first, second));
            for (int j = 0; j < first * second; j++) {
                x.link(1, j, 2);
            }
            if (first > 1 && second > 1) {
                dueDefect("open(1, " + first + ", " + second + ")", x, 3, 1);
            } else if (first > 0 && second > 0) {
                dueDefect("open(1, " + first + ", " + second + ")", x, 0, -1);
            }
        });
    }

    private static void defect4() {
        for (int first = -2; first <= 0; first++) {
            for (int second : new int[] {-2, -1, 0, 1, 99, 100}) {
                int one = first;
                int want = one < 0 || second < 0 ? 4 : one + second == 100 ? 0 : 5;
                dueDefect("end(1, " + one + ", " + second + ")", before(x -> x.end(1, one, second)), want, want == 0 ? -1 : 1);
                dueDefect("end(1, " + second + ", " + one + ")", before(x -> x.end(1, second, one)), want, want == 0 ? -1 : 1);
            }
        }
    }

    private static void defect5() {
        for (int goal = 0; goal <= 100; goal++) {
            int first = goal;
            for (int sum : new int[] {0, 99, 100, 101, 200}) {
                int second = sum - first;
                if (second >= 0 && second <= 100) {
                    GameGraph x = before(y -> y.end(1, first, second));
                    dueDefect("end(1, " + first + ", " + second + ")", x, sum == 100 ? 0 : 5, sum == 100 ? -1 : 1);
                }
            }
        }
    }

    /** A ring of the least numbers comes behind each of the other kinds in the greatest. */
    private static void then6() {
        for (int kind = 2; kind <= 5; kind++) {
            GameGraph x = withStates(60);
            open(x, 0, 2, 1, 0, 59);
            dueDefect("0 to itself", x, 6, 0);
            putDefect(x, 59, kind);
            dueDefect("0 to itself, defect " + kind + " in 59", x, kind, 59);
        }
    }

    private static void leastStateOfARing() {
        for (int states = 1; states <= 60; states++) {
            for (int to : new int[] {0, states / 2, states - 1}) {
                GameGraph x = chain(states);
                dueDefect("chain of " + states, x, 0, -1);
                open(x, states - 1, 1, 1, to);
                dueDefect("chain of " + states + ", the last to " + to, x, 6, to);
            }
        }
        // 1 and 2 lead to the ring of 3 and 4 and are less, but nobody comes to them again.
        GameGraph x = withStates(6);
        open(x, 0, 1, 1, 2);
        open(x, 2, 1, 1, 1);
        open(x, 1, 1, 1, 4);
        open(x, 4, 2, 1, 3, 5);
        open(x, 3, 1, 1, 4);
        dueDefect("a ring of 4 and 3 behind 2 and 1", x, 6, 3);
        // Two rings: the least state counts, not the one that is met first.
        open(x, 0, 2, 1, 4, 2);
        open(x, 1, 1, 1, 2);
        dueDefect("rings of 4 and 3, and of 2 and 1", x, 6, 1);
        open(x, 5, 1, 1, 0);
        dueDefect("a ring by 0 too", x, 6, 0);
    }

    private static void ringThatIsNotReached() {
        GameGraph x = small();
        open(x, 5, 1, 1, 5);
        dueDefect("5 to itself, not reached", x, 0, -1);
        open(x, 5, 1, 1, 0);
        dueDefect("5 to 0, not reached", x, 0, -1);
        GameGraph y = withStates(4);
        open(y, 0, 1, 1, 3);
        open(y, 1, 1, 1, 2);
        open(y, 2, 2, 1, 1, 3);
        dueDefect("a ring of 1 and 2, not reached", y, 0, -1);
        open(y, 3, 1, 1, 2);
        dueDefect("a ring of 1 and 2, reached by 3", y, 6, 1);
    }

    private static void waysThatMeetAreNoRing() {
        GameGraph x = withStates(60);
        for (int n = 0; n < 59; n++) {
            open(x, n, 2, 1, Math.min(59, n + 2), n + 1);
        }
        dueDefect("each to the next two", x, 0, -1);
        GameGraph y = withStates(2);
        open(y, 0, 12, 1, 1, 1, 1, 1, 1, 1, 1, 1, 1, 1, 1, 1);
        dueDefect("twelve moves to one state", y, 0, -1);
    }

    // ---- Terms: values, best moves, lengths

    private static void eachReachedStateHasAValue() {
        GameGraph x = chain(60);
        for (int i = 0; i < 60; i++) {
            int n = i;
            due("chain: value(" + n + ")", 50, () -> x.value(n));
        }
        GameGraph y = chain(60);
        open(y, 58, 1, 1, 58);
        for (int i = 0; i < 60; i++) {
            int n = i;
            due("chain with a defect: value(" + n + ")", STATE, () -> y.value(n));
        }
    }

    private static void endsFirstGoal() {
        for (int i = 0; i <= 100; i++) {
            int goal = i;
            GameGraph x = new GameGraph();
            x.end(0, goal, 100 - goal);
            due("end(0, " + goal + ", " + (100 - goal) + "): value(0)", goal, () -> x.value(0));
        }
    }

    /** Of so many moves one alone goes to the end with this goal, the others to ends with the other one. */
    private static GameGraph oneOf(boolean firstChooses, int moves, int place, int goal, int others) {
        GameGraph x = withStates(3);
        x.open(0, firstChooses ? moves : 1, firstChooses ? 1 : moves);
        for (int j = 0; j < moves; j++) {
            x.link(0, j, j == place ? 1 : 2);
        }
        x.end(1, goal, 100 - goal);
        x.end(2, others, 100 - others);
        return x;
    }

    private static void valueWithMoves(boolean firstChooses, int goal, int others) {
        for (int moves = 2; moves <= 12; moves++) {
            for (int place = 0; place < moves; place++) {
                GameGraph x = oneOf(firstChooses, moves, place, goal, others);
                boolean isChosen = firstChooses ? goal >= others : goal <= others;
                String name = (firstChooses ? "first" : "second") + " has " + moves + ", " + goal + " at " + place
                    + " among " + others;
                due(name + ": value(0)", isChosen ? goal : others, () -> x.value(0));
            }
        }
    }

    private static void greatestIfFirstHasMoreThanOne() {
        for (int[] pair : PAIRS_OF_GOALS) {
            valueWithMoves(true, pair[0], pair[1]);
        }
    }

    private static void leastIfSecondHasMoreThanOne() {
        for (int[] pair : PAIRS_OF_GOALS) {
            valueWithMoves(false, pair[0], pair[1]);
        }
    }

    private static void thatOfTheOneOtherwise() {
        for (int i = 0; i <= 100; i++) {
            int goal = i;
            GameGraph x = before(y -> y.end(1, goal, 100 - goal));
            due("one joint move to " + goal + ": value(0)", goal, () -> x.value(0));
            due("one joint move to " + goal + ": best(0)", 0, () -> x.best(0));
        }
    }

    /** The two places with the value may be any: the first of them is the best. */
    private static void bestIsTheFirstOfThatValue() {
        for (boolean firstChooses : new boolean[] {true, false}) {
            for (int place = 0; place < 12; place++) {
                for (int again = place; again < 12; again++) {
                    int good = firstChooses ? 100 : 0;
                    GameGraph x = oneOf(firstChooses, 12, place, good, firstChooses ? 99 : 1);
                    x.link(0, again, 1);
                    due("value " + good + " at " + place + " and " + again + ": best(0)", place, () -> x.best(0));
                }
            }
        }
        // The same value by a longer way counts as well as an end.
        GameGraph x = withStates(4);
        open(x, 0, 2, 1, 1, 3);
        open(x, 1, 1, 2, 2, 3);
        due("50 by way of 1: best(0)", 0, () -> x.best(0));
        x.end(2, 49, 51);
        due("49 by way of 1: best(0)", 1, () -> x.best(0));
        x.end(2, 51, 49);
        due("51 or 50 by way of 1: best(0)", 0, () -> x.best(0));
    }

    private static void greatestNumberOfMoves() {
        for (int i = 0; i < 60; i++) {
            int n = i;
            due("chain: length(" + n + ")", 59 - n, () -> chain(60).length(n));
        }
        for (int moves = 2; moves <= 12; moves++) {
            for (int place = 0; place < moves; place++) {
                for (boolean firstChooses : new boolean[] {true, false}) {
                    GameGraph x = oneOf(firstChooses, moves, place, 50, 50);
                    open(x, 1, 1, 1, 2);
                    due("of " + moves + " moves " + place + " is the long way: length(0)", 2, () -> x.length(0));
                }
            }
        }
        // The longest way counts even if the best moves go a short one.
        GameGraph x = small();
        due("small: best(0)", 1, () -> x.best(0));
        due("small: length(0)", 2, () -> x.length(0));
    }

    private static void lengthOfAnEnd() {
        due("new: length(0)", 0, () -> new GameGraph().length(0));
        due("chain of 60: length(59)", 0, () -> chain(60).length(59));
        due("end after it was open: length(0)", 0, () -> {
            GameGraph x = chain(60);
            x.length(0);
            x.end(0, 50, 50);
            return x.length(0);
        });
    }

    // ---- Terms: a call that throws

    private static void throwingChangesNothing() {
        throwingInEachMethod(Checks::small, OUT);
        for (int i = 2; i <= 6; i++) {
            int kind = i;
            throwingInEachMethod(() -> withDefect(kind), STATE);
        }
    }

    /** Calls on the small graph, or on one that differs from it in state 4 alone. */
    private static void throwingInEachMethod(Maker maker, String ofValues) {
        for (int n : new int[] {0, 61, LEAST}) {
            changesNothing("states(" + n + ")", ARGUMENT, maker, x -> x.states(n));
        }
        int[][] ends = {{0, -3, 50}, {0, 50, 101}, {2, 101, 0}, {5, 0, -3}, {1, 101, 101}};
        for (int[] e : ends) {
            changesNothing("end(" + e[0] + ", " + e[1] + ", " + e[2] + ")", ARGUMENT, maker, x -> x.end(e[0], e[1], e[2]));
        }
        int[][] opens = {{0, -1, 1}, {0, 1, 13}, {0, 2, 7}, {1, 13, 0}, {2, 4, 4}, {5, 0, -1}, {5, 65536, 65536}};
        for (int[] o : opens) {
            changesNothing("open(" + o[0] + ", " + o[1] + ", " + o[2] + ")", ARGUMENT, maker, x -> x.open(o[0], o[1], o[2]));
        }
        for (int n : new int[] {-1, 6}) {
            changesNothing("end(" + n + ", 0, 0)", OUT, maker, x -> x.end(n, 0, 0));
            changesNothing("open(" + n + ", 1, 1)", OUT, maker, x -> x.open(n, 1, 1));
        }
        int[][] links = {{-1, 0, 0}, {6, 0, 0}, {0, -1, 3}, {0, 2, 3}, {0, 12, 3}, {1, -12, 3}, {2, 0, 3}, {5, 0, 3},
            {0, 0, -1}, {0, 0, 6}, {0, 1, 60}};
        for (int[] l : links) {
            changesNothing("link(" + l[0] + ", " + l[1] + ", " + l[2] + ")", OUT, maker, x -> x.link(l[0], l[1], l[2]));
            if (l[2] == 3) {
                changesNothing("next(" + l[0] + ", " + l[1] + ")", OUT, maker, x -> x.next(l[0], l[1]));
            }
        }
        changesNothing("defect(-1)", ARGUMENT, maker, x -> x.defect(-1));
        changesNothing("defect(2)", ARGUMENT, maker, x -> x.defect(2));
        for (int n : new int[] {-1, 5, 6}) {
            changesNothing("value(" + n + ")", ofValues, maker, x -> x.value(n));
            changesNothing("best(" + n + ")", ofValues, maker, x -> x.best(n));
            changesNothing("length(" + n + ")", ofValues, maker, x -> x.length(n));
        }
    }

    private static void statesAndMoves() {
        sentence("There are 1 to 60 STATES", TermEdgesTest::oneTo60States);
        sentence("STATES, numbered from 0", TermEdgesTest::numberedFrom0);
        sentence("an END, with a GOAL 0 .. 100 for each of two players", TermEdgesTest::goals0To100);
        sentence("(or -1, none, or -2, several)", TermEdgesTest::goalsNoneAndSeveral);
        sentence("each player has 0 .. 12 moves", TermEdgesTest::moves0To12);
        sentence("so many JOINT MOVES as the product of both numbers", TermEdgesTest::jointMovesAreTheProduct);
        sentence("at most 12", TermEdgesTest::productAtMost12);
        sentence("each goes to a state", TermEdgesTest::jointMovesGoToStates);
        sentence("each goes to a state (twelve joint moves, in every state)", TermEdgesTest::allJointMovesOfAllStates);
    }

    private static void reachedAndDefects() {
        sentence("REACHED are state 0", TermEdgesTest::state0IsReached);
        sentence("and all that reached ones go to", TermEdgesTest::whatReachedOnesGoToIsReached);
        sentence("and all that reached ones go to (and no other)", TermEdgesTest::whatOthersGoToIsNotReached);
        sentence("DEFECTS, the first of these, by reached states", TermEdgesTest::defectsOfReachedStatesAlone);
        sentence("in the order of their numbers", TermEdgesTest::defectsInOrderOfNumbers);
        sentence("2 an open one in which a player has no move", TermEdgesTest::defect2);
        sentence("3 in which both have more than one", TermEdgesTest::defect3);
        sentence("4 an end with a goal below 0", TermEdgesTest::defect4);
        sentence("5 whose goals don't make up 100", TermEdgesTest::defect5);
        sentence("then 6", TermEdgesTest::then6);
        sentence("6 the least .. state from which one can come to it again", TermEdgesTest::leastStateOfARing);
        sentence("6 .. reached state", TermEdgesTest::ringThatIsNotReached);
        sentence("6 .. come to it again (and no other)", TermEdgesTest::waysThatMeetAreNoRing);
    }

    private static void valuesAndLengths() {
        sentence("Without a defect each reached state has a VALUE", TermEdgesTest::eachReachedStateHasAValue);
        sentence("an end's first goal", TermEdgesTest::endsFirstGoal);
        sentence("the greatest .. if the first player has more than one move", TermEdgesTest::greatestIfFirstHasMoreThanOne);
        sentence("the least if the second one has", TermEdgesTest::leastIfSecondHasMoreThanOne);
        sentence("that of the one otherwise", TermEdgesTest::thatOfTheOneOtherwise);
        sentence("The BEST joint move is the first one to a state of that value", TermEdgesTest::bestIsTheFirstOfThatValue);
        sentence("Its LENGTH is the greatest number of moves until an end", TermEdgesTest::greatestNumberOfMoves);
        sentence("(0 for an end)", TermEdgesTest::lengthOfAnEnd);
    }

    public static void main(String[] args) {
        sentence("An object is used for at most 512 calls after it has been made", TermEdgesTest::calls512);
        statesAndMoves();
        reachedAndDefects();
        valuesAndLengths();
        sentence("A call that throws changes nothing.", TermEdgesTest::throwingChangesNothing);
        sentence("`NONE = -1`: There is none.", TermEdgesTest::none);
        finish();
    }
}
