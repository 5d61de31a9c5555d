/** The promises 1 to 11 at their edges: a test for each sentence, or part of one, that names an edge. */
public final class PromiseEdgesTest extends Checks {
    /** Numbers far outside; some come back into the range if they are cut to fewer bits, shifted by or multiplied. */
    private static final int[] FAR = {LEAST, LEAST + 1, -65536, -256, -64, -60, -2, 61, 64, 65, 128, 256, 257, 65536, 65537,
        1 << 30, MOST - 1, MOST};

    /** One of value(), best() and length(). */
    private interface OfState {
        int of(GameGraph x, int n);
    }

    private static int[] withFar(int... near) {
        int[] all = new int[near.length + FAR.length];
        System.arraycopy(near, 0, all, 0, near.length);
        System.arraycopy(FAR, 0, all, near.length, FAR.length);
        return all;
    }

    /** State n is an end with goals 50 and 50, seen by a move from 0 if it is another one. */
    private static void dueEvenEnd(String name, GameGraph x, int n) {
        due(name + ": next(" + n + ", 0)", OUT, () -> x.next(n, 0));
        if (n != 0) {
            open(x, 0, 1, 1, n);
        }
        dueDefect(name + ", state " + n, x, 0, -1);
        due(name + ": value(" + n + ")", 50, () -> x.value(n));
        due(name + ": best(" + n + ")", -1, () -> x.best(n));
        due(name + ": length(" + n + ")", 0, () -> x.length(n));
        x.end(0, 50, 50);
    }

    // ---- Promise 1

    private static void newObjectHasOneState() {
        GameGraph x = new GameGraph();
        due("new: reached()", 1, x::reached);
        allowed("new: end(0, 50, 50)", () -> x.end(0, 50, 50));
        for (int n : new int[] {-1, 1}) {
            refused("new: end(" + n + ", 50, 50)", OUT, () -> x.end(n, 50, 50));
            refused("new: open(" + n + ", 1, 1)", OUT, () -> x.open(n, 1, 1));
            due("new: value(" + n + ")", OUT, () -> x.value(n));
        }
    }

    private static void newObjectIsAnEvenEnd() {
        dueEvenEnd("new", new GameGraph(), 0);
        refused("new: link(0, 0, 0)", OUT, () -> new GameGraph().link(0, 0, 0));
    }

    // ---- Promise 2

    private static void soManyStates() {
        GameGraph x = new GameGraph();
        for (int states : new int[] {60, 1, 59, 2, 60, 60, 1, 1}) {
            x.states(states);
            for (int k = 0; k <= 60; k++) {
                int n = k;
                refused("states(" + states + "): end of " + n, n < states ? "0" : OUT, () -> x.end(n, 1, 1));
            }
        }
    }

    /** Nothing of the graph before stays, be the new one smaller, as large, or larger. */
    private static void allEvenEnds() {
        for (int before : new int[] {1, 2, 59, 60}) {
            for (int states : new int[] {1, 2, 59, 60}) {
                for (int n = 0; n < states; n++) {
                    GameGraph x = uneven(before);
                    x.reached();
                    x.states(states);
                    dueEvenEnd("states(" + before + "), states(" + states + ")", x, n);
                }
            }
        }
    }

    private static GameGraph uneven(int states) {
        GameGraph x = withStates(states);
        for (int n = 0; n < states; n++) {
            if (n % 2 == 0) {
                open(x, n, 2, 1, 0, states - 1);
            } else {
                x.end(n, 7, 93);
            }
        }
        return x;
    }

    /** A state that was lost and came back has forgotten what it was. */
    private static void statesThatComeBack() {
        GameGraph x = withStates(60);
        open(x, 59, 2, 1, 0, 0);
        x.states(1);
        x.states(60);
        dueEvenEnd("59 lost and back", x, 59);
    }

    private static void statesOutside() {
        for (int n : withFar(0, -1)) {
            changesNothing("states(" + n + ")", ARGUMENT, Checks::small, x -> x.states(n));
        }
        allowed("states(1)", () -> small().states(1));
        allowed("states(60)", () -> small().states(60));
    }

    // ---- Promise 3

    private static void isAnEnd() {
        GameGraph x = small();
        x.end(0, 0, 100);
        due("0 was open: next(0, 0)", OUT, () -> x.next(0, 0));
        refused("0 was open: link(0, 0, 0)", OUT, () -> x.link(0, 0, 0));
        due("0 was open: reached()", 1, x::reached);
        due("0 was open: value(0)", 0, () -> x.value(0));
        x.end(0, 100, 0);
        due("0 was an end: value(0)", 100, () -> x.value(0));
        GameGraph without = small();
        without.open(4, 0, 0);
        without.end(4, 20, 80);
        dueDefect("4 had no moves", without, 0, -1);
        GameGraph last = withStates(60);
        open(last, 0, 1, 1, 59);
        last.end(59, 1, 99);
        due("the last of 60: value(0)", 1, () -> last.value(0));
    }

    private static void endOfNoState() {
        for (int n : withFar(-1, 6, 59, 60)) {
            changesNothing("end(" + n + ", 50, 50)", OUT, Checks::small, x -> x.end(n, 50, 50));
        }
        allowed("end(0, 50, 50)", () -> small().end(0, 50, 50));
        allowed("end(5, 50, 50)", () -> small().end(5, 50, 50));
    }

    private static void goalsOutside() {
        for (int goal : withFar(-3, 101)) {
            // 61, 64 and 65 are goals like others.
            if (goal < -2 || goal > 100) {
                changesNothing("end(0, " + goal + ", 50)", ARGUMENT, Checks::small, x -> x.end(0, goal, 50));
                changesNothing("end(5, 50, " + goal + ")", ARGUMENT, Checks::small, x -> x.end(5, 50, goal));
                changesNothing("end(2, " + goal + ", 100 less)", ARGUMENT, Checks::small, x -> x.end(2, goal, 100 - goal));
            }
        }
        for (int goal : new int[] {-2, -1, 0, 100}) {
            allowed("end(0, " + goal + ", 50)", () -> small().end(0, goal, 50));
            allowed("end(0, 50, " + goal + ")", () -> small().end(0, 50, goal));
        }
    }

    private static void endWithBothWrong() {
        for (int n : new int[] {-1, 6}) {
            changesNothing("end(" + n + ", -3, 50)", OUT, Checks::small, x -> x.end(n, -3, 50));
            changesNothing("end(" + n + ", 50, 101)", OUT, Checks::small, x -> x.end(n, 50, 101));
        }
    }

    // ---- Promise 4

    private static void isOpenAndGoesTo0() {
        for (int n : new int[] {0, 1, 59}) {
            GameGraph x = withStates(60);
            for (int[] moves : new int[][] {{12, 1}, {1, 12}, {3, 4}, {1, 1}, {12, 1}}) {
                x.open(n, moves[0], moves[1]);
                for (int k = 0; k < moves[0] * moves[1]; k++) {
                    int j = k;
                    due("open(" + n + ", " + moves[0] + ", " + moves[1] + "): next of " + j, 0, () -> x.next(n, j));
                    x.link(n, j, 58);
                }
            }
            x.end(n, 50, 50);
            x.open(n, 12, 1);
            due("open, end, open: next(" + n + ", 11)", 0, () -> x.next(n, 11));
            x.link(n, 11, 58);
            x.open(n, 1, 1);
            x.open(n, 12, 1);
            due("twelve, one, twelve: next(" + n + ", 11)", 0, () -> x.next(n, 11));
        }
    }

    private static void openWithoutJointMoves() {
        for (int[] moves : new int[][] {{0, 0}, {0, 1}, {1, 0}, {0, 12}, {12, 0}}) {
            GameGraph x = small();
            x.open(4, moves[0], moves[1]);
            String name = "open(4, " + moves[0] + ", " + moves[1] + ")";
            due(name + ": next(4, 0)", OUT, () -> x.next(4, 0));
            refused(name + ": link(4, 0, 0)", OUT, () -> x.link(4, 0, 0));
            dueDefect(name, x, 2, 4);
        }
    }

    private static void openOfNoState() {
        for (int n : withFar(-1, 6, 59, 60)) {
            changesNothing("open(" + n + ", 1, 1)", OUT, Checks::small, x -> x.open(n, 1, 1));
        }
        allowed("open(0, 1, 1)", () -> small().open(0, 1, 1));
        allowed("open(5, 1, 1)", () -> small().open(5, 1, 1));
    }

    private static void movesOutside() {
        for (int moves : withFar(-1, 13)) {
            for (int other : new int[] {0, 1}) {
                changesNothing("open(0, " + moves + ", " + other + ")", ARGUMENT, Checks::small, x -> x.open(0, moves, other));
                changesNothing("open(5, " + other + ", " + moves + ")", ARGUMENT, Checks::small, x -> x.open(5, other, moves));
            }
        }
        for (int moves : new int[] {0, 12}) {
            allowed("open(0, " + moves + ", 1)", () -> small().open(0, moves, 1));
            allowed("open(0, 1, " + moves + ")", () -> small().open(0, 1, moves));
        }
        // Two wrong numbers whose product is a right one, by its sign or by a wrap-around.
        for (int[] moves : new int[][] {{-1, -1}, {-3, -4}, {65536, 65536}, {1 << 30, 4}, {LEAST, 2}, {LEAST, LEAST}}) {
            String name = "open(0, " + moves[0] + ", " + moves[1] + ")";
            changesNothing(name, ARGUMENT, Checks::small, x -> x.open(0, moves[0], moves[1]));
        }
    }

    private static void productAbove12() {
        for (int i = 2; i <= 12; i++) {
            int first = i;
            int most = 12 / first;
            allowed("open(0, " + first + ", " + most + ")", () -> small().open(0, first, most));
            changesNothing("open(0, " + first + ", " + (most + 1) + ")", ARGUMENT, Checks::small,
                x -> x.open(0, first, most + 1));
            changesNothing("open(0, " + (most + 1) + ", " + first + ")", ARGUMENT, Checks::small,
                x -> x.open(0, most + 1, first));
        }
        changesNothing("open(0, 12, 12)", ARGUMENT, Checks::small, x -> x.open(0, 12, 12));
    }

    private static void openWithBothWrong() {
        for (int n : new int[] {-1, 6}) {
            changesNothing("open(" + n + ", -1, 1)", OUT, Checks::small, x -> x.open(n, -1, 1));
            changesNothing("open(" + n + ", 1, 13)", OUT, Checks::small, x -> x.open(n, 1, 13));
            changesNothing("open(" + n + ", 4, 4)", OUT, Checks::small, x -> x.open(n, 4, 4));
        }
    }

    // ---- Promises 5 and 6

    private static void goesToAnother() {
        GameGraph x = withStates(60);
        x.open(0, 12, 1);
        x.open(59, 1, 12);
        for (int[] link : new int[][] {{0, 0, 59}, {0, 11, 58}, {59, 0, 1}, {59, 11, 57}, {0, 0, 0}, {59, 11, 59}}) {
            x.link(link[0], link[1], link[2]);
            due("link(" + link[0] + ", " + link[1] + ", " + link[2] + "): next", link[2], () -> x.next(link[0], link[1]));
        }
        int[][] due = {{0, 0, 0}, {0, 1, 0}, {0, 10, 0}, {0, 11, 58}, {59, 0, 1}, {59, 1, 0}, {59, 10, 0}, {59, 11, 59}};
        for (int[] d : due) {
            due("after all links: next(" + d[0] + ", " + d[1] + ")", d[2], () -> x.next(d[0], d[1]));
        }
    }

    private static void linkOfNoState() {
        for (int n : withFar(-1, 6, 59, 60)) {
            changesNothing("link(" + n + ", 0, 3)", OUT, Checks::small, x -> x.link(n, 0, 3));
        }
        allowed("link(0, 0, 3)", () -> small().link(0, 0, 3));
        allowed("link(1, 0, 3)", () -> small().link(1, 0, 3));
    }

    private static void linkToNoState() {
        for (int to : withFar(-1, 6, 59, 60)) {
            changesNothing("link(0, 0, " + to + ")", OUT, Checks::small, x -> x.link(0, 0, to));
        }
        allowed("link(0, 0, 0)", () -> small().link(0, 0, 0));
        allowed("link(0, 0, 5)", () -> small().link(0, 0, 5));
        GameGraph fewer = withStates(60);
        fewer.states(59);
        fewer.open(0, 1, 1);
        refused("of 59, 60 before: link(0, 0, 59)", OUT, () -> fewer.link(0, 0, 59));
        allowed("of 59, 60 before: link(0, 0, 58)", () -> fewer.link(0, 0, 58));
    }

    private static void linkOfAnEnd() {
        for (int n = 2; n <= 5; n++) {
            int end = n;
            for (int j : new int[] {0, 1, 11}) {
                changesNothing("link(" + end + ", " + j + ", 3)", OUT, Checks::small, x -> x.link(end, j, 3));
            }
        }
        GameGraph x = small();
        x.end(0, 50, 50);
        refused("0 an end now: link(0, 0, 1)", OUT, () -> x.link(0, 0, 1));
        x.open(0, 1, 1);
        allowed("0 open again: link(0, 0, 1)", () -> x.link(0, 0, 1));
    }

    private static void linkOfNoJointMove() {
        for (int j : withFar(-1, 2, 11, 12, 13, -12)) {
            changesNothing("link(0, " + j + ", 3)", OUT, Checks::small, x -> x.link(0, j, 3));
            changesNothing("link(1, " + j + ", 3)", OUT, Checks::small, x -> x.link(1, j, 3));
        }
        allowed("link(0, 1, 3)", () -> small().link(0, 1, 3));
        GameGraph x = small();
        x.open(0, 1, 1);
        refused("one joint move of two left: link(0, 1, 3)", OUT, () -> x.link(0, 1, 3));
    }

    private static void nextIsWhereItGoes() {
        GameGraph x = small();
        int[][] due = {{0, 0, 1}, {0, 1, 2}, {1, 0, 3}, {1, 1, 4}};
        for (int[] d : due) {
            due("next(" + d[0] + ", " + d[1] + ")", d[2], () -> x.next(d[0], d[1]));
        }
        // A state need not be reached, nor the graph without a defect.
        open(x, 5, 1, 1, 5);
        due("not reached: next(5, 0)", 5, () -> x.next(5, 0));
        for (int i = 2; i <= 6; i++) {
            int kind = i;
            due("with defect " + kind + ": next(1, 1)", 4, () -> withDefect(kind).next(1, 1));
        }
    }

    private static void nextOfNoState() {
        for (int n : withFar(-1, 6, 59, 60)) {
            changesNothing("next(" + n + ", 0)", OUT, Checks::small, x -> x.next(n, 0));
        }
    }

    private static void nextOfAnEnd() {
        for (int n = 2; n <= 5; n++) {
            int end = n;
            changesNothing("next(" + end + ", 0)", OUT, Checks::small, x -> x.next(end, 0));
        }
    }

    private static void nextOfNoJointMove() {
        for (int j : withFar(-1, 2, 11, 12, 13, -12)) {
            changesNothing("next(0, " + j + ")", OUT, Checks::small, x -> x.next(0, j));
            changesNothing("next(1, " + j + ")", OUT, Checks::small, x -> x.next(1, j));
        }
    }

    // ---- Promises 7 and 8

    private static void howManyAreReached() {
        due("new: reached()", 1, new GameGraph()::reached);
        for (int states = 1; states <= 60; states++) {
            due("chain of " + states + ": reached()", states, chain(states)::reached);
            due("no move of " + states + ": reached()", 1, withStates(states)::reached);
        }
        // A defect does not keep anything from being reached.
        for (int i = 2; i <= 6; i++) {
            int kind = i;
            due("with defect " + kind + ": reached()", 5, () -> withDefect(kind).reached());
        }
    }

    private static void theFirstDefect() {
        dueDefect("new", new GameGraph(), 0, GameGraph.NONE);
        for (int kind = 2; kind <= 6; kind++) {
            dueDefect("with defect " + kind, withDefect(kind), kind, kind == 6 ? 0 : 4);
            GameGraph x = new GameGraph();
            putDefect(x, 0, kind);
            dueDefect("one state with defect " + kind, x, kind, 0);
            x.end(0, 50, 50);
            dueDefect("one state, defect " + kind + " mended", x, 0, GameGraph.NONE);
            GameGraph last = chain(60);
            putDefect(last, 59, kind);
            dueDefect("the last of 60 with defect " + kind, last, kind, kind == 6 ? 0 : 59);
        }
    }

    private static void anotherWhat() {
        for (int what : withFar(-1, 2, 3, 4, 5, 6)) {
            changesNothing("defect(" + what + ")", ARGUMENT, Checks::small, x -> x.defect(what));
            changesNothing("defect(" + what + ") with a defect", ARGUMENT, () -> withDefect(5), x -> x.defect(what));
        }
        allowed("defect(0)", () -> small().defect(0));
        allowed("defect(1)", () -> small().defect(1));
    }

    // ---- Promises 9, 10 and 11

    private static void valuesAtTheEdges() {
        int[] due = {30, 20, 30, 70, 20};
        for (int i = 0; i < due.length; i++) {
            int n = i;
            due("small: value(" + n + ")", due[n], () -> small().value(n));
        }
        GameGraph x = chain(60);
        for (int goal : new int[] {0, 1, 99, 100}) {
            x.end(59, goal, 100 - goal);
            due("chain to " + goal + ": value(0)", goal, () -> x.value(0));
            due("chain to " + goal + ": value(59)", goal, () -> x.value(59));
        }
    }

    private static void bestAtTheEdges() {
        GameGraph x = withStates(3);
        x.end(1, 100, 0);
        x.end(2, 0, 100);
        for (int place = 0; place < 12; place++) {
            open(x, 0, 12, 1, 2, 2, 2, 2, 2, 2, 2, 2, 2, 2, 2, 2);
            x.link(0, place, 1);
            int due = place;
            due("100 at " + place + " of twelve: best(0)", due, () -> x.best(0));
            open(x, 0, 1, 12, 1, 1, 1, 1, 1, 1, 1, 1, 1, 1, 1, 1);
            x.link(0, place, 2);
            due("0 at " + place + " of twelve: best(0)", due, () -> x.best(0));
        }
    }

    private static void bestOfAnEnd() {
        due("new: best(0)", GameGraph.NONE, () -> new GameGraph().best(0));
        for (int n = 2; n <= 4; n++) {
            int end = n;
            due("small: best(" + end + ")", GameGraph.NONE, () -> small().best(end));
        }
        due("chain of 60: best(59)", GameGraph.NONE, () -> chain(60).best(59));
        due("chain of 60: best(58)", 0, () -> chain(60).best(58));
        GameGraph x = small();
        x.end(0, 0, 100);
        due("0 an end now: best(0)", GameGraph.NONE, () -> x.best(0));
    }

    private static void lengthsAtTheEdges() {
        int[] due = {2, 1, 0, 0, 0};
        for (int i = 0; i < due.length; i++) {
            int n = i;
            due("small: length(" + n + ")", due[n], () -> small().length(n));
        }
        for (int states = 1; states <= 60; states++) {
            GameGraph x = chain(states);
            due("chain of " + states + ": length(0)", states - 1, () -> x.length(0));
        }
    }

    /** Each kind of defect is told, also of states that have nothing to do with it, that are none or not reached. */
    private static void ifThereIsADefect(String name, OfState asked) {
        for (int i = 2; i <= 6; i++) {
            int kind = i;
            for (int n = 0; n <= 4; n++) {
                int state = n;
                changesNothing(name + "(" + n + ") with defect " + kind, STATE, () -> withDefect(kind), x -> asked.of(x, state));
            }
            for (int n : new int[] {-1, 5, 6, LEAST, MOST}) {
                due(name + "(" + n + ") with defect " + kind, STATE, () -> asked.of(withDefect(kind), n));
            }
            GameGraph x = withDefect(kind);
            due(name + "(2) with defect " + kind, STATE, () -> asked.of(x, 2));
            x.link(1, 1, 3);
            due(name + "(3) with defect " + kind + " not reached", asked.of(small(), 3), () -> asked.of(x, 3));
        }
    }

    private static void ifThereIsNoSuchState(String name, OfState asked) {
        for (int n : withFar(-1, 6, 59, 60)) {
            changesNothing(name + "(" + n + ")", OUT, Checks::small, x -> asked.of(x, n));
        }
        for (int n : withFar(-1, 60)) {
            due("chain of 60: " + name + "(" + n + ")", OUT, () -> asked.of(chain(60), n));
        }
        allowed("chain of 60: " + name + "(0)", () -> asked.of(chain(60), 0));
        allowed("chain of 60: " + name + "(59)", () -> asked.of(chain(60), 59));
        GameGraph fewer = chain(60);
        asked.of(fewer, 59);
        fewer.states(59);
        due("of 59, 60 before: " + name + "(59)", OUT, () -> asked.of(fewer, 59));
    }

    private static void ifItIsNotReached(String name, OfState asked) {
        changesNothing(name + "(5)", OUT, Checks::small, x -> asked.of(x, 5));
        GameGraph x = small();
        x.link(0, 0, 5);
        allowed("5 reached: " + name + "(5)", () -> asked.of(x, 5));
        for (int n : new int[] {1, 3, 4}) {
            due("no longer reached: " + name + "(" + n + ")", OUT, () -> asked.of(x, n));
        }
        GameGraph ends = withStates(60);
        for (int i = 1; i < 60; i++) {
            int n = i;
            due("60 ends: " + name + "(" + n + ")", OUT, () -> asked.of(ends, n));
        }
    }

    private static void refusalsOf(String name, OfState asked) {
        String call = name + "(): ";
        sentence(call + "IllegalStateException if there is a defect", () -> ifThereIsADefect(name, asked));
        sentence(call + "IndexOutOfBoundsException if there is no such state", () -> ifThereIsNoSuchState(name, asked));
        sentence(call + "or it isn't reached", () -> ifItIsNotReached(name, asked));
    }

    private static void promises1To4() {
        sentence("1: One state", PromiseEdgesTest::newObjectHasOneState);
        sentence("1: an end with goals 50 and 50", PromiseEdgesTest::newObjectIsAnEvenEnd);
        sentence("2: So many states", PromiseEdgesTest::soManyStates);
        sentence("2: all ends with goals 50 and 50", PromiseEdgesTest::allEvenEnds);
        sentence("2: all ends with goals 50 and 50 (that came back)", PromiseEdgesTest::statesThatComeBack);
        sentence("2: IllegalArgumentException if n is not 1 .. 60", PromiseEdgesTest::statesOutside);
        sentence("3: A state is an end", PromiseEdgesTest::isAnEnd);
        sentence("3: IndexOutOfBoundsException if there is none such", PromiseEdgesTest::endOfNoState);
        sentence("3: IllegalArgumentException if a goal is not -2 .. 100", PromiseEdgesTest::goalsOutside);
        sentence("3: IndexOutOfBoundsException before IllegalArgumentException", PromiseEdgesTest::endWithBothWrong);
        sentence("4: A state is open, all its joint moves go to state 0", PromiseEdgesTest::isOpenAndGoesTo0);
        sentence("4: A state is open (without a joint move)", PromiseEdgesTest::openWithoutJointMoves);
        sentence("4: IndexOutOfBoundsException if there is none such", PromiseEdgesTest::openOfNoState);
        sentence("4: IllegalArgumentException if a number is not 0 .. 12", PromiseEdgesTest::movesOutside);
        sentence("4: or their product above 12", PromiseEdgesTest::productAbove12);
        sentence("4: IndexOutOfBoundsException before IllegalArgumentException", PromiseEdgesTest::openWithBothWrong);
    }

    private static void promises5To8() {
        sentence("5: Joint move j of a state goes to another one", PromiseEdgesTest::goesToAnother);
        sentence("5: IndexOutOfBoundsException if there are no such states (from)", PromiseEdgesTest::linkOfNoState);
        sentence("5: IndexOutOfBoundsException if there are no such states (to)", PromiseEdgesTest::linkToNoState);
        sentence("5: or the first isn't open", PromiseEdgesTest::linkOfAnEnd);
        sentence("5: or has no such joint move", PromiseEdgesTest::linkOfNoJointMove);
        sentence("6: Where joint move j goes to", PromiseEdgesTest::nextIsWhereItGoes);
        sentence("6: IndexOutOfBoundsException as for link() (no such state)", PromiseEdgesTest::nextOfNoState);
        sentence("6: IndexOutOfBoundsException as for link() (isn't open)", PromiseEdgesTest::nextOfAnEnd);
        sentence("6: IndexOutOfBoundsException as for link() (no such joint move)", PromiseEdgesTest::nextOfNoJointMove);
        sentence("7: How many states are reached", PromiseEdgesTest::howManyAreReached);
        sentence("8: The first defect (what = 0; 0 if there is none), its state (1; NONE)", PromiseEdgesTest::theFirstDefect);
        sentence("8: IllegalArgumentException for another what", PromiseEdgesTest::anotherWhat);
    }

    private static void promises9To11() {
        sentence("9: The value of a state", PromiseEdgesTest::valuesAtTheEdges);
        refusalsOf("value", GameGraph::value);
        sentence("10: The best joint move", PromiseEdgesTest::bestAtTheEdges);
        sentence("10: NONE of an end", PromiseEdgesTest::bestOfAnEnd);
        refusalsOf("best", GameGraph::best);
        sentence("11: The length of a state", PromiseEdgesTest::lengthsAtTheEdges);
        refusalsOf("length", GameGraph::length);
    }

    public static void main(String[] args) {
        promises1To4();
        promises5To8();
        promises9To11();
        finish();
    }
}
