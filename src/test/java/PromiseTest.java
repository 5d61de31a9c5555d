/** The promises of the document one by one in ordinary use. The edges stand in PromiseEdgesTest and TermEdgesTest. */
public final class PromiseTest extends Checks {
    private static void newObject() {
        GameGraph x = new GameGraph();
        due("NONE", -1, () -> GameGraph.NONE);
        due("new: reached()", 1, x::reached);
        dueDefect("new", x, 0, -1);
        due("new: value(0)", 50, () -> x.value(0));
        due("new: best(0)", -1, () -> x.best(0));
        due("new: length(0)", 0, () -> x.length(0));
        due("new: value(1)", OUT, () -> x.value(1));
        due("new: next(0, 0)", OUT, () -> x.next(0, 0));
        refused("new: end(1, 50, 50)", OUT, () -> x.end(1, 50, 50));
        GameGraph other = new GameGraph();
        x.end(0, 100, 0);
        due("two objects: value(0) of the other", 50, () -> other.value(0));
    }

    private static void states() {
        GameGraph x = small();
        x.states(4);
        dueDefect("states(4)", x, 0, -1);
        due("states(4): reached()", 1, x::reached);
        due("states(4): next(0, 0)", OUT, () -> x.next(0, 0));
        open(x, 0, 3, 1, 1, 2, 3);
        due("states(4): reached() with moves", 4, x::reached);
        for (int i = 0; i < 4; i++) {
            int n = i;
            due("states(4): value(" + n + ")", 50, () -> x.value(n));
        }
        refused("states(100)", ARGUMENT, () -> x.states(100));
    }

    private static void end() {
        GameGraph x = small();
        x.end(2, 80, 20);
        due("end(2, 80, 20): value(2)", 80, () -> x.value(2));
        due("end(2, 80, 20): value(0)", 80, () -> x.value(0));
        x.end(0, 40, 60);
        due("open made an end: value(0)", 40, () -> x.value(0));
        due("open made an end: next(0, 0)", OUT, () -> x.next(0, 0));
        due("open made an end: reached()", 1, x::reached);
        due("open made an end: value(1)", OUT, () -> x.value(1));
        refused("end(20, 50, 50)", OUT, () -> x.end(20, 50, 50));
        refused("end(0, 150, 50)", ARGUMENT, () -> x.end(0, 150, 50));
    }

    private static void open() {
        GameGraph x = small();
        x.open(0, 1, 3);
        for (int k = 0; k < 3; k++) {
            int j = k;
            due("opened again: next(0, " + j + ")", 0, () -> x.next(0, j));
        }
        x.end(1, 50, 50);
        x.open(1, 1, 2);
        due("opened after an end: next(1, 1)", 0, () -> x.next(1, 1));
        due("opened after an end: next(1, 2)", OUT, () -> x.next(1, 2));
        refused("open(20, 1, 1)", OUT, () -> x.open(20, 1, 1));
        refused("open(0, 20, 1)", ARGUMENT, () -> x.open(0, 20, 1));
        refused("open(0, 5, 5)", ARGUMENT, () -> x.open(0, 5, 5));
    }

    private static void linkAndNext() {
        GameGraph x = small();
        due("next(0, 0)", 1, () -> x.next(0, 0));
        due("next(0, 1)", 2, () -> x.next(0, 1));
        due("next(1, 0)", 3, () -> x.next(1, 0));
        due("next(1, 1)", 4, () -> x.next(1, 1));
        x.link(0, 0, 5);
        due("linked to 5: next(0, 0)", 5, () -> x.next(0, 0));
        due("linked to 5: next(0, 1)", 2, () -> x.next(0, 1));
        x.link(0, 0, 0);
        due("linked to itself: next(0, 0)", 0, () -> x.next(0, 0));
        refused("link(0, 5, 1)", OUT, () -> x.link(0, 5, 1));
        refused("link(0, 0, 20)", OUT, () -> x.link(0, 0, 20));
        due("next(2, 0) of an end", OUT, () -> x.next(2, 0));
    }

    private static void reached() {
        GameGraph x = small();
        due("small: reached()", 5, x::reached);
        x.open(5, 1, 1);
        due("an open state not reached: reached()", 5, x::reached);
        x.link(1, 0, 5);
        due("3 left for 5: reached()", 5, x::reached);
        x.link(5, 0, 3);
        due("3 by 5: reached()", 6, x::reached);
        x.link(0, 0, 0);
        due("1 left: reached()", 2, x::reached);
        x.open(0, 0, 12);
        due("no joint move: reached()", 1, x::reached);
        GameGraph chain = chain(60);
        due("chain: reached()", 60, chain::reached);
        chain.end(30, 50, 50);
        due("chain cut: reached()", 31, chain::reached);
        GameGraph back = withStates(60);
        open(back, 0, 1, 1, 59);
        for (int n = 59; n > 1; n--) {
            open(back, n, 1, 1, n - 1);
        }
        due("chain from the last back: reached()", 60, back::reached);
        dueDefect("chain from the last back", back, 0, -1);
        due("chain from the last back: length(0)", 59, () -> back.length(0));
    }

    private static void defect() {
        GameGraph x = small();
        dueDefect("small", x, 0, -1);
        due("defect(7)", ARGUMENT, () -> x.defect(7));
        int[][] open = {{0, 0, 2}, {0, 1, 2}, {1, 0, 2}, {0, 12, 2}, {12, 0, 2}, {2, 2, 3}, {2, 6, 3}, {3, 4, 3},
            {6, 2, 3}, {1, 1, 0}, {12, 1, 0}, {1, 12, 0}, {2, 1, 0}, {1, 2, 0}};
        for (int[] o : open) {
            GameGraph y = small();
            y.open(4, o[0], o[1]);
            for (int j = 0; j < o[0] * o[1]; j++) {
                y.link(4, j, 5);
            }
            dueDefect("open(4, " + o[0] + ", " + o[1] + ")", y, o[2], o[2] == 0 ? -1 : 4);
        }
        int[][] end = {{-1, 100, 4}, {-2, 100, 4}, {100, -1, 4}, {100, -2, 4}, {-1, -1, 4}, {-2, -2, 4}, {0, 0, 5},
            {50, 51, 5}, {49, 50, 5}, {100, 100, 5}, {100, 0, 0}, {0, 100, 0}, {1, 99, 0}};
        for (int[] e : end) {
            GameGraph y = small();
            y.end(4, e[0], e[1]);
            dueDefect("end(4, " + e[0] + ", " + e[1] + ")", y, e[2], e[2] == 0 ? -1 : 4);
            y.states(6);
            y.end(4, e[0], e[1]);
            dueDefect("not reached: end(4, " + e[0] + ", " + e[1] + ")", y, 0, -1);
        }
        defectOrder();
        defectOfWaysBack();
    }

    private static void defectOrder() {
        GameGraph x = small();
        x.open(4, 0, 0);
        x.end(3, 50, 51);
        dueDefect("5 at 3 before 2 at 4", x, 5, 3);
        x.end(2, -1, 0);
        dueDefect("4 at 2 before 5 at 3", x, 4, 2);
        x.open(2, 2, 2);
        dueDefect("3 at 2 before 5 at 3", x, 3, 2);
        x.end(2, 30, 70);
        x.end(3, 70, 30);
        x.end(4, 20, 81);
        open(x, 1, 1, 2, 0, 4);
        dueDefect("5 at 4 before the way from 0 back", x, 5, 4);
        x.end(4, 20, 80);
        dueDefect("the way from 0 back alone", x, 6, 0);
    }

    private static void defectOfWaysBack() {
        GameGraph itself = new GameGraph();
        itself.open(0, 1, 1);
        dueDefect("0 to itself", itself, 6, 0);
        GameGraph chain = chain(60);
        dueDefect("chain", chain, 0, -1);
        for (int n : new int[] {0, 1, 30, 58, 59}) {
            open(chain, 59, 1, 1, n);
            dueDefect("chain, the last to " + n, chain, 6, n);
        }
        GameGraph x = small();
        open(x, 5, 1, 1, 5);
        dueDefect("a ring that is not reached", x, 0, -1);
        // 3 leads to the ring 4, 5 but is not on it, though it is less.
        open(x, 3, 1, 1, 4);
        open(x, 4, 1, 1, 5);
        open(x, 5, 1, 1, 4);
        dueDefect("a ring behind 3", x, 6, 4);
        // Two ways to one state are no way back.
        open(x, 5, 1, 1, 2);
        open(x, 3, 2, 1, 2, 2);
        dueDefect("two ways to 2", x, 0, -1);
    }

    private static void value() {
        GameGraph x = small();
        due("small: value(0)", 30, () -> x.value(0));
        due("small: value(1)", 20, () -> x.value(1));
        due("small: value(2)", 30, () -> x.value(2));
        x.end(4, 90, 10);
        due("a better end: value(1)", 70, () -> x.value(1));
        due("a better end: value(0)", 70, () -> x.value(0));
        GameGraph one = withStates(2);
        open(one, 0, 1, 1, 1);
        for (int goal : new int[] {0, 1, 50, 99, 100}) {
            one.end(1, goal, 100 - goal);
            due("one joint move: value(0)", goal, () -> one.value(0));
        }
        GameGraph all = withStates(13);
        for (int n = 1; n < 13; n++) {
            all.end(n, n * 7 % 13, 100 - n * 7 % 13);
        }
        open(all, 0, 12, 1, 1, 2, 3, 4, 5, 6, 7, 8, 9, 10, 11, 12);
        due("twelve, the greatest: value(0)", 12, () -> all.value(0));
        due("twelve, the greatest: best(0)", 10, () -> all.best(0));
        open(all, 0, 1, 12, 1, 2, 3, 4, 5, 6, 7, 8, 9, 10, 11, 12);
        due("twelve, the least: value(0)", 1, () -> all.value(0));
        due("twelve, the least: best(0)", 1, () -> all.best(0));
        valueOfWhatIsCutOff();
    }

    /** After value(0) has cut off the last move of 2, all the same the value of 2 itself is the whole one. */
    private static void valueOfWhatIsCutOff() {
        GameGraph x = withStates(8);
        open(x, 0, 2, 1, 1, 2);
        open(x, 1, 1, 2, 3, 4);
        open(x, 2, 1, 3, 5, 6, 7);
        int[] goals = {60, 40, 35, 10, 5};
        for (int i = 0; i < goals.length; i++) {
            x.end(3 + i, goals[i], 100 - goals[i]);
        }
        due("cut off: value(0)", 40, () -> x.value(0));
        due("cut off: best(0)", 0, () -> x.best(0));
        due("cut off: value(2)", 5, () -> x.value(2));
        due("cut off: best(2)", 2, () -> x.best(2));
        due("cut off: value(1)", 40, () -> x.value(1));
        due("cut off: value(0) again", 40, () -> x.value(0));
    }

    private static void best() {
        GameGraph x = small();
        due("small: best(0)", 1, () -> x.best(0));
        due("small: best(1)", 1, () -> x.best(1));
        due("small: best(2)", -1, () -> x.best(2));
        x.end(4, 90, 10);
        due("a better end: best(0)", 0, () -> x.best(0));
        due("a better end: best(1)", 0, () -> x.best(1));
        for (int goal : new int[] {0, 1, 50, 99, 100}) {
            GameGraph y = withStates(5);
            open(y, 0, 1, 3, 4, 1, 2);
            open(y, 1, 1, 2, 2, 3);
            open(y, 4, 1, 1, 3);
            for (int n = 2; n <= 3; n++) {
                y.end(n, goal, 100 - goal);
            }
            due("all alike, the least: best(0)", 0, () -> y.best(0));
            open(y, 0, 3, 1, 4, 1, 2);
            due("all alike, the greatest: best(0)", 0, () -> y.best(0));
            due("all alike, one move: best(4)", 0, () -> y.best(4));
        }
        GameGraph tie = withStates(5);
        open(tie, 0, 4, 1, 1, 2, 3, 4);
        int[] goals = {10, 80, 80, 20};
        for (int i = 0; i < 4; i++) {
            tie.end(i + 1, goals[i], 100 - goals[i]);
        }
        due("the first of two alike: best(0)", 1, () -> tie.best(0));
        tie.end(1, 80, 20);
        due("the first of three alike: best(0)", 0, () -> tie.best(0));
    }

    private static void length() {
        GameGraph x = small();
        int[] lengths = {2, 1, 0, 0, 0};
        for (int i = 0; i < lengths.length; i++) {
            int n = i;
            due("small: length(" + n + ")", lengths[n], () -> x.length(n));
        }
        // The greatest number of moves counts, not that of the way by best moves.
        due("small: best(0)", 1, () -> x.best(0));
        open(x, 4, 1, 1, 5);
        due("one more: length(0)", 3, () -> x.length(0));
        due("one more: length(4)", 1, () -> x.length(4));
        due("one more: length(5)", 0, () -> x.length(5));
        open(x, 1, 1, 2, 3, 3);
        due("one less: length(0)", 2, () -> x.length(0));
        GameGraph chain = chain(60);
        for (int i = 0; i < 60; i++) {
            int n = i;
            due("chain: length(" + n + ")", 59 - n, () -> chain.length(n));
        }
        open(chain, 0, 2, 1, 59, 1);
        due("chain with a short way first: length(0)", 59, () -> chain.length(0));
        open(chain, 0, 2, 1, 1, 59);
        due("chain with a short way last: length(0)", 59, () -> chain.length(0));
    }

    /** Of value(), best() and length(): a defect is told before a state that is none or not reached. */
    private static void refusals() {
        dueOfAll(small(), 5, OUT);
        dueOfAll(small(), 20, OUT);
        for (int kind = 2; kind <= 6; kind++) {
            dueOfAll(withDefect(kind), 0, STATE);
            dueOfAll(withDefect(kind), 5, STATE);
            dueOfAll(withDefect(kind), 20, STATE);
        }
        GameGraph mended = withDefect(5);
        due("before it is mended: value(0)", STATE, () -> mended.value(0));
        mended.end(4, 20, 80);
        due("mended: value(0)", 30, () -> mended.value(0));
    }

    private static void dueOfAll(GameGraph x, int n, String want) {
        due("value(" + n + ")", want, () -> x.value(n));
        due("best(" + n + ")", want, () -> x.best(n));
        due("length(" + n + ")", want, () -> x.length(n));
    }

    public static void main(String[] args) {
        newObject();
        states();
        end();
        open();
        linkAndNext();
        reached();
        defect();
        value();
        best();
        length();
        refusals();
        finish();
    }
}
