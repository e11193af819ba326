/** Promises 5 to 7: want, step and leave. */
final class ProcessCases {
    private static final Class<IllegalArgumentException> ARGUMENT = IllegalArgumentException.class;
    private static final Class<IllegalStateException> STATE = IllegalStateException.class;
    private static final int TRYING = 1;
    private static final int INSIDE = 2;
    private static final int LEAVING = 3;
    private static final int LOST = 4;

    private interface Deed {
        void doTo(LockMuseum x, int p);
    }

    private ProcessCases() {
    }

    static void all() {
        Check.each(ProcessCases::wantBegins, ProcessCases::wantOfNoProcess, ProcessCases::wantOfOneThatIsNotIdle,
            ProcessCases::stepAnswersWhatItIsThen, ProcessCases::stepOfNoProcess,
            ProcessCases::stepOfOneThatDoesNotGo, ProcessCases::leaveMakesNoStep, ProcessCases::leaveOfNoProcess,
            ProcessCases::leaveOfOneThatIsNotInside);
    }

    /** A museum for so many in which process p is this (0 .. 4), and the others are idle. */
    private static LockMuseum where(int processes, int p, int what) {
        LockMuseum x = Rows.museum(processes, Rows.door(), Rows.read(2, 0, 6), Rows.enter(), Rows.read(2, 0, 6),
            Rows.go(4));
        if (what != 0) {
            x.want(p);
        }
        if (what >= INSIDE) {
            Rows.advance(x, p, 2);
        }
        if (what >= LEAVING) {
            x.leave(p);
        }
        if (what == LOST) {
            Rows.advance(x, p, 2);
        }
        return x;
    }

    /** Refused for processes that there aren't, whatever those that there are may be. */
    private static void onlyForProcesses(String call, Deed deed) {
        for (int n = 1; n <= 3; n++) {
            for (int what = 0; what <= 4; what++) {
                LockMuseum x = where(n, n - 1, what);
                String before = Check.picture(x, n);
                for (int p : new int[] {-1, n, n + 1, Integer.MIN_VALUE, Integer.MAX_VALUE}) {
                    Check.refused(call + "(" + p + ") among " + n, ARGUMENT, () -> deed.doTo(x, p));
                }
                Check.same("a refused " + call, Check.picture(x, n), before);
            }
        }
    }

    private static void refusedWhile(String call, int what, Deed deed) {
        for (int n = 1; n <= 3; n++) {
            int last = n - 1;
            LockMuseum x = where(n, last, what);
            Check.due("what process " + last + " is", x.about(last, 0), what);
            String before = Check.picture(x, n);
            Check.refused(call + "(" + last + ") of one that is " + what, STATE, () -> deed.doTo(x, last));
            Check.same("a refused " + call, Check.picture(x, n), before);
        }
    }

    private static void wantBegins() {
        Document.says("Promise 5", "Process p begins an attempt.");
        for (int n = 1; n <= 3; n++) {
            for (int p = 0; p < n; p++) {
                LockMuseum x = where(n, p, 0);
                x.want(p);
                Check.due("it is trying", x.about(p, 0), TRYING);
                Check.due("its place", x.about(p, 1), 0);
                Check.due("it is ahead of its door", x.about(p, 2), 0);
                Check.due("it has made no step", x.about(p, 4), 0);
                Check.due("register 0", x.register(p, 0), p);
                Check.due("register 1", x.register(p, 1), n);
                for (int q = 0; q < n; q++) {
                    Check.due("process " + q, x.about(q, 0), q == p ? TRYING : 0);
                }
            }
        }
    }

    private static void wantOfNoProcess() {
        Document.says("Promise 5", "IllegalArgumentException if there is none such;");
        onlyForProcesses("want", (x, p) -> x.want(p));
    }

    private static void wantOfOneThatIsNotIdle() {
        Document.says("Promise 5", "IllegalStateException if it isn't idle.");
        for (int what = TRYING; what <= LOST; what++) {
            refusedWhile("want", what, (x, p) -> x.want(p));
        }
    }

    private static void stepAnswersWhatItIsThen() {
        Document.says("Promise 6", "A step of process p: what it is then.");
        LockMuseum x = where(3, 2, TRYING);
        Check.due("trying", x.step(2), TRYING);
        Check.due("inside", x.step(2), INSIDE);
        x.leave(2);
        Check.due("leaving", x.step(2), LEAVING);
        Check.due("lost", x.step(2), LOST);
        Check.due("its steps", x.about(2, 4), 4);
        LockMuseum y = Rows.museum(2);
        y.want(1);
        Check.due("idle", y.step(1), 0);
        Check.due("idle: its steps", y.about(1, 4), 1);
    }

    private static void stepOfNoProcess() {
        Document.says("Promise 6", "IllegalArgumentException if there is none such;");
        onlyForProcesses("step", (x, p) -> x.step(p));
    }

    private static void stepOfOneThatDoesNotGo() {
        Document.says("Promise 6", "IllegalStateException if it isn't trying or leaving.");
        refusedWhile("step", 0, (x, p) -> x.step(p));
        refusedWhile("step", INSIDE, (x, p) -> x.step(p));
        refusedWhile("step", LOST, (x, p) -> x.step(p));
    }

    private static void leaveMakesNoStep() {
        Document.says("Promise 7", "Process p leaves (it makes no step).");
        LockMuseum x = where(3, 1, INSIDE);
        Check.same("ahead", Check.picture(x, 3), "0 0 0 0 0 0 0 0 | 0 0 0 0 0 0 0 0 0 0 0 | 1 3 0 0 0 0 2 3 0 0 2 "
            + "| 0 0 0 0 0 0 0 0 0 0 0 | 0 :");
        x.leave(1);
        Check.same("behind", Check.picture(x, 3), "0 0 0 0 0 0 0 0 | 0 0 0 0 0 0 0 0 0 0 0 | 1 3 0 0 0 0 3 3 0 0 2 "
            + "| 0 0 0 0 0 0 0 0 0 0 0 | 0 :");
    }

    private static void leaveOfNoProcess() {
        Document.says("Promise 7", "IllegalArgumentException if there is none such;");
        onlyForProcesses("leave", (x, p) -> x.leave(p));
    }

    private static void leaveOfOneThatIsNotInside() {
        Document.says("Promise 7", "IllegalStateException if it isn't inside.");
        refusedWhile("leave", 0, (x, p) -> x.leave(p));
        refusedWhile("leave", TRYING, (x, p) -> x.leave(p));
        refusedWhile("leave", LEAVING, (x, p) -> x.leave(p));
        refusedWhile("leave", LOST, (x, p) -> x.leave(p));
    }
}
