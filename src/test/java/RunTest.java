/** Promise 11: run. */
public final class RunTest {
    private static final Class<IllegalArgumentException> ARGUMENT = IllegalArgumentException.class;

    public static void main(String[] args) {
        asSingleCalls();
        noTimes();
        mostTimes();
        refused();
        lostMakesNone();
        entriesWithoutALock();
        Check.finish();
    }

    /** The same moves by want, step and leave. */
    private static int byHand(LockMuseum x, int processes, int seed, int times) {
        int entries = 0;
        int now = seed;
        for (int i = 0; i < times; i++) {
            now = now * 1103515245 + 12345;
            int p = (now >>> 16) % processes;
            int was = x.about(p, 0);
            if (was == 4) {
                continue;
            }
            if (was == 0) {
                x.want(p);
            }
            if (was == 2) {
                x.leave(p);
            }
            entries += x.step(p) == 2 ? 1 : 0;
        }
        return entries;
    }

    private static void asSingleCalls() {
        int[] seeds = {0, 1, -1, 77, 123456789, Integer.MIN_VALUE, Integer.MAX_VALUE};
        for (int method = 1; method <= 5; method++) {
            for (int processes = method == 3 ? 2 : 1; processes <= (method == 3 ? 2 : 3); processes++) {
                LockMuseum x = new LockMuseum();
                LockMuseum y = new LockMuseum();
                x.exhibit(method, processes);
                y.exhibit(method, processes);
                for (int seed : seeds) {
                    String name = "exhibit " + method + " for " + processes + ": run(" + seed + ", 150)";
                    Check.due(name, x.run(seed, 150), byHand(y, processes, seed, 150));
                    Check.same(name, Check.picture(x, processes), Check.picture(y, processes));
                }
            }
        }
    }

    private static void noTimes() {
        LockMuseum x = new LockMuseum();
        x.run(6, 7);
        String before = Check.picture(x, 2);
        Check.due("run(5, 0)", x.run(5, 0), 0);
        Check.same("run(5, 0)", Check.picture(x, 2), before);
    }

    private static void mostTimes() {
        LockMuseum x = new LockMuseum();
        LockMuseum y = new LockMuseum();
        Check.due("run(8, 2000)", x.run(8, 2000), byHand(y, 2, 8, 2000));
        Check.same("run(8, 2000)", Check.picture(x, 2), Check.picture(y, 2));
    }

    private static void refused() {
        LockMuseum x = new LockMuseum();
        x.run(6, 7);
        String before = Check.picture(x, 2);
        for (int times : new int[] {-1, 2001, Integer.MIN_VALUE, Integer.MAX_VALUE}) {
            Check.refused("run(1, " + times + ")", ARGUMENT, () -> x.run(1, times));
        }
        Check.same("a refused run", Check.picture(x, 2), before);
    }

    private static void lostMakesNone() {
        LockMuseum x = new LockMuseum();
        x.change(0, 5, 0, 0, 0);
        Check.due("all are lost: run(1, 50)", x.run(1, 50), 0);
        Check.due("lost: what", x.about(0, 0), 4);
        Check.due("lost: steps", x.about(0, 4), 1);
        String before = Check.picture(x, 2);
        x.mend();
        Check.due("still lost: run(1, 50)", x.run(1, 50), 0);
        Check.same("still lost", Check.picture(x, 2), before);
    }

    private static void entriesWithoutALock() {
        LockMuseum x = new LockMuseum();
        x.exhibit(1, 1);
        x.change(0, 12, 0, 0, 0);
        x.change(1, 12, 0, 0, 0);
        x.change(2, 13, 0, 0, 0);
        Check.due("in and out: run(3, 9)", x.run(3, 9), 5);
        Check.due("inside", x.about(0, 0), 2);
        Check.due("out and in: run(3, 1)", x.run(3, 1), 0);
        Check.due("in: run(3, 1)", x.run(3, 1), 1);
    }
}
