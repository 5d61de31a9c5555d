/** Graphs with so many ways that a search which keeps nothing would never end, and the deepest ones. */
public final class DeepTest {
    private static final int SECONDS = 60;
    private static final int MOVES = 7;
    private static volatile int wrong = 0;

    private static void due(String call, int got, int want) {
        if (got != want) {
            wrong++;
            System.out.println(call + " answered " + got + ", due is " + want);
        }
    }

    /** Each state before the last goes to the next ones, or the last: as many as 512 calls allow to lay out. */
    private static GameGraph ladder(boolean firstAlways, int goal) {
        GameGraph x = new GameGraph();
        x.states(60);
        for (int n = 0; n < 59; n++) {
            boolean firstChooses = firstAlways || n % 2 == 0;
            x.open(n, firstChooses ? MOVES : 1, firstChooses ? 1 : MOVES);
            for (int j = 0; j < MOVES; j++) {
                x.link(n, j, Math.min(59, n + 1 + j));
            }
        }
        x.end(59, goal, 100 - goal);
        return x;
    }

    private static void checkLadders() {
        for (int goal = 0; goal <= 100; goal += 10) {
            for (int from = 0; from < 60; from += 12) {
                GameGraph x = ladder(goal % 20 == 0, goal);
                due("ladder: reached()", x.reached(), 60);
                for (int n = from; n < from + 12; n++) {
                    due("ladder: value(" + n + ")", x.value(n), goal);
                    due("ladder: best(" + n + ")", x.best(n), n == 59 ? -1 : 0);
                    due("ladder: length(" + n + ")", x.length(n), 59 - n);
                }
            }
        }
    }

    /** The good end stands behind the longest way alone, which every search goes down. */
    private static void checkLongWay() {
        GameGraph x = new GameGraph();
        x.states(60);
        for (int n = 0; n < 58; n++) {
            x.open(n, 2, 1);
            x.link(n, 0, n + 1);
            x.link(n, 1, 59);
        }
        x.end(58, 90, 10);
        x.end(59, 10, 90);
        due("long way: value(0)", x.value(0), 90);
        due("long way: best(0)", x.best(0), 0);
        due("long way: length(0)", x.length(0), 58);
    }

    public static void main(String[] args) throws InterruptedException {
        Thread work = new Thread(() -> {
            checkLadders();
            checkLongWay();
        });
        // What still works after so long would work for years.
        work.setDaemon(true);
        work.setUncaughtExceptionHandler((thread, e) -> {
            wrong++;
            e.printStackTrace(System.out);
        });
        work.start();
        work.join(SECONDS * 1000L);
        if (work.isAlive()) {
            System.out.println("the calls do not end");
            System.exit(1);
        }
        System.out.println(wrong == 0 ? "all answers are as due" : wrong + " answers are not as due");
        if (wrong != 0) {
            System.exit(1);
        }
    }
}
