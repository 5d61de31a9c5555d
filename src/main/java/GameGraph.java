/**
 * A graph of a game's states, looked over for defects, and of a game of two without any the values, found by
 * cutting off, with the moves that reach them.
 */
public final class GameGraph {
    /** There is none. */
    public static final int NONE = -1;

    private static final int MOST_STATES = 60;
    private static final int MOST_MOVES = 12;
    private static final int LEAST_GOAL = 0;
    private static final int MOST_GOAL = 100;
    private static final int SEVERAL_GOALS = -2;
    private static final int EVEN_GOAL = 50;

    private static final int NO_DEFECT = 0;
    private static final int NO_MOVE = 2;
    private static final int BOTH_CHOOSE = 3;
    private static final int GOAL_MISSING = 4;
    private static final int GOALS_NOT_WHOLE = 5;
    private static final int COMES_AGAIN = 6;

    private int count;
    private final boolean[] isOpen = new boolean[MOST_STATES];
    // Of an end the players' goals, of an open state how many moves they have.
    private final int[] ofFirst = new int[MOST_STATES];
    private final int[] ofSecond = new int[MOST_STATES];
    // Joint move j of state n stands at n * MOST_MOVES + j.
    private final int[] targets = new int[MOST_STATES * MOST_MOVES];

    // What follows is found from the graph when it is first asked for, and kept until the graph changes.
    private boolean surveyed;
    // Sets of states are bits of a long, which the limit of 60 states allows.
    private final long[] comesTo = new long[MOST_STATES];
    private long reachedStates;
    private int defectKind;
    private int defectState;
    private final int[] lengths = new int[MOST_STATES];
    // The value of a state is known to lie between these two; a search brings them together.
    private final int[] low = new int[MOST_STATES];
    private final int[] high = new int[MOST_STATES];

    public GameGraph() {
        makeEvenEnds(1);
    }

    public void states(int n) throws IllegalArgumentException {
        if (n < 1 || n > MOST_STATES) {
            throw new IllegalArgumentException("the number of states is not 1 .. 60");
        }
        makeEvenEnds(n);
    }

    public void end(int n, int first, int second) throws IndexOutOfBoundsException, IllegalArgumentException {
        requireState(n);
        if (!isGoal(first) || !isGoal(second)) {
            throw new IllegalArgumentException("a goal is not -2 .. 100");
        }
        makeState(n, false, first, second);
    }

    public void open(int n, int first, int second) throws IndexOutOfBoundsException, IllegalArgumentException {
        requireState(n);
        if (!isNumberOfMoves(first) || !isNumberOfMoves(second) || first * second > MOST_MOVES) {
            throw new IllegalArgumentException("a number of moves is not 0 .. 12, or the product is above 12");
        }
        makeState(n, true, first, second);
    }

    public void link(int n, int j, int to) throws IndexOutOfBoundsException {
        requireJointMove(n, j);
        requireState(to);
        targets[n * MOST_MOVES + j] = to;
        surveyed = false;
    }

    public int next(int n, int j) throws IndexOutOfBoundsException {
        requireJointMove(n, j);
        return target(n, j);
    }

    public int reached() {
        survey();
        return Long.bitCount(reachedStates);
    }

    public int defect(int what) throws IllegalArgumentException {
        if (what != 0 && what != 1) {
            throw new IllegalArgumentException("what is not 0 or 1");
        }
        survey();
        return what == 0 ? defectKind : defectState;
    }

    public int value(int n) throws IllegalStateException, IndexOutOfBoundsException {
        requireValued(n);
        return findValue(n);
    }

    public int best(int n) throws IllegalStateException, IndexOutOfBoundsException {
        requireValued(n);
        return findBest(n);
    }

    public int length(int n) throws IllegalStateException, IndexOutOfBoundsException {
        requireValued(n);
        return lengths[n];
    }

    private boolean hasState(int n) {
        return n >= 0 && n < count;
    }

    private void requireState(int n) {
        if (!hasState(n)) {
            throw new IndexOutOfBoundsException("there is no such state");
        }
    }

    private void requireJointMove(int n, int j) {
        requireState(n);
        if (j < 0 || j >= jointMoves(n)) {
            throw new IndexOutOfBoundsException("the state has no such joint move");
        }
    }

    private void requireValued(int n) {
        survey();
        if (defectKind != NO_DEFECT) {
            throw new IllegalStateException("the graph has a defect");
        }
        if (!hasState(n) || !contains(reachedStates, n)) {
            throw new IndexOutOfBoundsException("there is no such state, or it is not reached");
        }
    }

    private static boolean isGoal(int goal) {
        return goal >= SEVERAL_GOALS && goal <= MOST_GOAL;
    }

    private static boolean isNumberOfMoves(int number) {
        return number >= 0 && number <= MOST_MOVES;
    }

    private static boolean contains(long set, int n) {
        return (set >>> n & 1L) != 0;
    }

    private int jointMoves(int n) {
        return isOpen[n] ? ofFirst[n] * ofSecond[n] : 0;
    }

    private int target(int n, int j) {
        return targets[n * MOST_MOVES + j];
    }

    private void makeEvenEnds(int number) {
        count = number;
        for (int n = 0; n < number; n++) {
            makeState(n, false, EVEN_GOAL, EVEN_GOAL);
        }
    }

    private void makeState(int n, boolean asOpen, int first, int second) {
        isOpen[n] = asOpen;
        ofFirst[n] = first;
        ofSecond[n] = second;
        for (int j = 0; j < MOST_MOVES; j++) {
            targets[n * MOST_MOVES + j] = 0;
        }
        surveyed = false;
    }

    private void survey() {
        if (surveyed) {
            return;
        }
        findWhatStatesComeTo();
        reachedStates = comesTo[0] | 1L;
        findDefect();
        if (defectKind == NO_DEFECT) {
            findLengths();
            boundValues();
        }
        surveyed = true;
    }

    /** Warshall's closure: after round k all ways whose states between are at most k are known. */
    private void findWhatStatesComeTo() {
        for (int n = 0; n < count; n++) {
            comesTo[n] = goesTo(n);
        }
        for (int k = 0; k < count; k++) {
            for (int n = 0; n < count; n++) {
                if (contains(comesTo[n], k)) {
                    comesTo[n] |= comesTo[k];
                }
            }
        }
    }

    private long goesTo(int n) {
        long set = 0;
        int moves = jointMoves(n);
        for (int j = 0; j < moves; j++) {
            set |= 1L << target(n, j);
        }
        return set;
    }

    private void findDefect() {
        defectKind = NO_DEFECT;
        defectState = NONE;
        for (int n = 0; n < count && defectKind == NO_DEFECT; n++) {
            if (contains(reachedStates, n)) {
                noteDefect(n, isOpen[n] ? defectOfOpen(n) : defectOfEnd(n));
            }
        }
        // A way back counts only where no state is bad in itself, so it has a round of its own.
        for (int n = 0; n < count && defectKind == NO_DEFECT; n++) {
            if (contains(reachedStates, n)) {
                noteDefect(n, contains(comesTo[n], n) ? COMES_AGAIN : NO_DEFECT);
            }
        }
    }

    private void noteDefect(int n, int kind) {
        if (kind != NO_DEFECT) {
            defectKind = kind;
            defectState = n;
        }
    }

    private int defectOfOpen(int n) {
        if (jointMoves(n) == 0) {
            return NO_MOVE;
        }
        return ofFirst[n] > 1 && ofSecond[n] > 1 ? BOTH_CHOOSE : NO_DEFECT;
    }

    private int defectOfEnd(int n) {
        if (ofFirst[n] < LEAST_GOAL || ofSecond[n] < LEAST_GOAL) {
            return GOAL_MISSING;
        }
        return ofFirst[n] + ofSecond[n] != MOST_GOAL ? GOALS_NOT_WHOLE : NO_DEFECT;
    }

    /**
     * A state settles in the round after the last of those that it comes to, so that its round is its length.
     * No way is longer than the number of states, since none comes to a state again.
     */
    private void findLengths() {
        long settled = 0;
        for (int round = 0; round < count; round++) {
            long before = settled;
            for (int n = 0; n < count; n++) {
                boolean waits = contains(reachedStates, n) && !contains(before, n);
                if (waits && (comesTo[n] & ~before) == 0) {
                    lengths[n] = round;
                    settled |= 1L << n;
                }
            }
        }
    }

    private void boundValues() {
        for (int n = 0; n < count; n++) {
            low[n] = isOpen[n] ? LEAST_GOAL : ofFirst[n];
            high[n] = isOpen[n] ? MOST_GOAL : ofFirst[n];
        }
    }

    private int findValue(int n) {
        return search(n, LEAST_GOAL, MOST_GOAL, 0);
    }

    private int findBest(int n) {
        int value = findValue(n);
        int moves = jointMoves(n);
        for (int j = 0; j < moves; j++) {
            // So narrow a window tells only whether the value is this one, and cuts off most.
            if (search(target(n, j), value - 1, value + 1, 0) == value) {
                return j;
            }
        }
        return NONE;
    }

    /**
     * The value of a state if it lies between alpha and beta; else a bound of it on the same side of the window:
     * at most alpha and not below the value, or at least beta and not above it. What is learnt is kept in low and
     * high, which each search that looks at moves narrows, so that states met on many ways cost little.
     */
    private int search(int n, int alpha, int beta, int depth) {
        if (low[n] == high[n] || low[n] >= beta) {
            return low[n];
        }
        // A graph without a way back is never deeper than its number of states: that part is a guard alone.
        if (high[n] <= alpha || depth >= count) {
            return high[n];
        }
        int found = ofFirst[n] > 1 ? greatest(n, alpha, beta, depth) : least(n, alpha, beta, depth);
        if (found > alpha) {
            low[n] = found;
        }
        if (found < beta) {
            high[n] = found;
        }
        return found;
    }

    private int greatest(int n, int alpha, int beta, int depth) {
        int found = LEAST_GOAL;
        int moves = jointMoves(n);
        // At beta the other player has something better before: the moves left are cut off.
        for (int j = 0; j < moves && found < beta; j++) {
            found = Math.max(found, search(target(n, j), Math.max(alpha, found), beta, depth + 1));
        }
        return found;
    }

    private int least(int n, int alpha, int beta, int depth) {
        int found = MOST_GOAL;
        int moves = jointMoves(n);
        for (int j = 0; j < moves && found > alpha; j++) {
            found = Math.min(found, search(target(n, j), alpha, Math.min(beta, found), depth + 1));
        }
        return found;
    }
}
