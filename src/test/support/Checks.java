/** What the tests by hand share: asking for an answer that is due, graphs, and a look at all that an object holds. */
abstract class Checks {
    static final String OUT = "IndexOutOfBoundsException";
    static final String ARGUMENT = "IllegalArgumentException";
    static final String STATE = "IllegalStateException";
    static final int LEAST = Integer.MIN_VALUE;
    static final int MOST = Integer.MAX_VALUE;

    private static int wrong = 0;
    private static int asked = 0;
    private static String sentence = "";

    interface Asked {
        int answer();
    }

    interface Done {
        void act();
    }

    interface Maker {
        GameGraph make();
    }

    interface Call {
        void on(GameGraph x);
    }

    /** Runs the test of one sentence of the document; what fails in it is printed behind the sentence. */
    static void sentence(String words, Done test) {
        sentence = words + "\n    ";
        int before = asked;
        try {
            test.act();
        } catch (RuntimeException e) {
            fail("a call that is allowed threw " + e);
        }
        if (asked == before) {
            fail("nothing was asked");
        }
        sentence = "";
    }

    static void fail(String what) {
        wrong++;
        System.out.println(sentence + what);
    }

    static void finish() {
        System.out.println(wrong == 0 ? "all answers are as due" : wrong + " answers are not as due");
        if (wrong != 0) {
            System.exit(1);
        }
    }

    /** The exception's own class is told, so that one of the machine's (a class below) is never taken for it. */
    static String told(Asked question) {
        try {
            return Integer.toString(question.answer());
        } catch (RuntimeException e) {
            return e.getClass().getSimpleName();
        }
    }

    static String toldOf(Done done) {
        return told(() -> {
            done.act();
            return 0;
        });
    }

    static void due(String call, String want, Asked question) {
        asked++;
        String got = told(question);
        if (!got.equals(want)) {
            fail(call + " answered " + got + ", due is " + want);
        }
    }

    static void due(String call, int want, Asked question) {
        due(call, Integer.toString(want), question);
    }

    static void refused(String call, String want, Done done) {
        due(call, want, () -> {
            done.act();
            return 0;
        });
    }

    static void allowed(String call, Done done) {
        refused(call, "0", done);
    }

    static void dueDefect(String graph, GameGraph x, int kind, int state) {
        due(graph + ": defect(0)", kind, () -> x.defect(0));
        due(graph + ": defect(1)", state, () -> x.defect(1));
    }

    /**
     * The call is refused, and no run of calls behind it tells that it was made: not whether the object was asked
     * something before or not, nor when a state that is hidden now is laid open afterwards.
     */
    static void changesNothing(String name, String want, Maker maker, Call call) {
        refused(name, want, () -> call.on(maker.make()));
        compare(name, maker, call);
        Maker askedOnes = () -> {
            GameGraph x = maker.make();
            look(x, 0);
            return x;
        };
        compare(name + " after questions", askedOnes, call);
    }

    private static void compare(String name, Maker maker, Call call) {
        Maker called = () -> {
            GameGraph x = maker.make();
            toldOf(() -> call.on(x));
            return x;
        };
        if (!picture(called).equals(picture(maker))) {
            fail(name + " threw and changed something");
        }
    }

    /** All that can be asked, in one text. Each state has an object of its own, for none is promised 513 calls. */
    private static String picture(Maker maker) {
        GameGraph counted = maker.make();
        StringBuilder text = new StringBuilder();
        for (int i = -1; i <= 60; i++) {
            int n = i;
            GameGraph x = maker.make();
            text.append('\n').append(look(x, n));
            for (int k = -1; k <= 12; k++) {
                int j = k;
                text.append(' ').append(told(() -> x.next(n, j)));
            }
            text.append(' ').append(laidOpen(x, n)).append(' ').append(toldOf(() -> counted.end(n, 50, 50)));
        }
        return text.toString();
    }

    /** Makes the state the one that state 0 goes to, with moves to a worst and a best end, and looks at it. */
    private static String laidOpen(GameGraph x, int n) {
        int worst = n == 1 ? 3 : 1;
        int best = n == 2 ? 3 : 2;
        StringBuilder text = new StringBuilder();
        text.append(toldOf(() -> x.end(worst, 0, 100))).append(toldOf(() -> x.end(best, 100, 0)));
        for (int k = 0; k < 12; k++) {
            int j = k;
            text.append(toldOf(() -> x.link(n, j, j == 0 ? worst : best)));
        }
        if (n != 0) {
            text.append(toldOf(() -> x.open(0, 1, 1))).append(toldOf(() -> x.link(0, 0, n)));
        }
        return text.append(look(x, n)).toString();
    }

    private static String look(GameGraph x, int n) {
        return told(x::reached) + " " + told(() -> x.defect(0)) + " " + told(() -> x.defect(1)) + " "
            + told(() -> x.value(n)) + " " + told(() -> x.best(n)) + " " + told(() -> x.length(n));
    }

    static GameGraph withStates(int n) {
        GameGraph x = new GameGraph();
        x.states(n);
        return x;
    }

    static void open(GameGraph x, int n, int first, int second, int... targets) {
        x.open(n, first, second);
        for (int j = 0; j < targets.length; j++) {
            x.link(n, j, targets[j]);
        }
    }

    /** 0: the first chooses of 1 and 2; 1: the second of 3 and 4; ends 2, 3 and 4; 5 is not reached. */
    static GameGraph small() {
        GameGraph x = withStates(6);
        open(x, 0, 2, 1, 1, 2);
        open(x, 1, 1, 2, 3, 4);
        x.end(2, 30, 70);
        x.end(3, 70, 30);
        x.end(4, 20, 80);
        return x;
    }

    /** The small graph with a defect in state 4, but for 6, which makes a ring of 0, 1 and 4. */
    static GameGraph withDefect(int kind) {
        GameGraph x = small();
        putDefect(x, 4, kind);
        return x;
    }

    static void putDefect(GameGraph x, int n, int kind) {
        switch (kind) {
            case 2 -> x.open(n, 0, 1);
            case 3 -> x.open(n, 2, 2);
            case 4 -> x.end(n, -1, 50);
            case 5 -> x.end(n, 50, 60);
            default -> x.open(n, 1, 1);
        }
    }

    /** Each state but the last one goes to the next. */
    static GameGraph chain(int states) {
        GameGraph x = withStates(states);
        for (int n = 0; n + 1 < states; n++) {
            open(x, n, 1, 1, n + 1);
        }
        return x;
    }
}
