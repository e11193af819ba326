/** Promises 12 to 14: judge, states and trail. */
public final class JudgeTest {
    private static final Class<IllegalArgumentException> ARGUMENT = IllegalArgumentException.class;
    private static final Class<IndexOutOfBoundsException> INDEX = IndexOutOfBoundsException.class;

    public static void main(String[] args) {
        exhibitsHold();
        exhibitsAsPlain();
        exhibitsWithOneChangeAsPlain();
        noLock();
        trailLeadsThere();
        stuck();
        waitingIsNotStuck();
        oneLost();
        attemptsAreInTheState();
        chainOf3000();
        twoInsideAt3000();
        judgeBeginsAnew();
        judgeChangesNothing();
        refused();
        nothingWasJudged();
        trailsThatAreNot();
        latestJudgementCounts();
        Check.finish();
    }

    private static LockMuseum museum(int processes, int[][] rows) {
        LockMuseum x = new LockMuseum();
        x.exhibit(1, processes);
        for (int i = 0; i < 40; i++) {
            x.change(i, 13, 0, 0, 0);
        }
        for (int i = 0; i < rows.length; i++) {
            x.change(i, rows[i][0], rows[i][1], rows[i][2], rows[i][3]);
        }
        return x;
    }

    private static void judged(String name, LockMuseum x, int attempts, int verdict, int states) {
        Check.due(name + ": judge(" + attempts + ")", x.judge(attempts), verdict);
        Check.due(name + ": states()", x.states(), states);
    }

    // Promises 12 and 13
    private static void exhibitsHold() {
        LockMuseum x = new LockMuseum();
        judged("SWAP for 2", x, 1, 0, 29);
        x.exhibit(1, 3);
        judged("SWAP for 3", x, 1, 0, 153);
        x.exhibit(3, 2);
        judged("TWO", x, 2, 0, 362);
        x.exhibit(4, 2);
        judged("BAKERY for 2", x, 1, 0, 269);
        x.exhibit(4, 3);
        judged("BAKERY for 3", x, 1, 3, 3000);
        x.exhibit(5, 3);
        judged("LEVELS for 3", x, 1, 3, 3000);
        // Alone: idle, behind the swap, inside, behind the write, idle; 5 states an attempt, of which 1 is shared.
        x.exhibit(1, 1);
        judged("SWAP for 1", x, 1, 0, 5);
        judged("SWAP for 1", x, 2, 0, 9);
        judged("SWAP for 1", x, 3, 0, 13);
    }

    // Promises 12 to 14
    private static void exhibitsAsPlain() {
        for (int method = 1; method <= 5; method++) {
            for (int processes = 1; processes <= 3; processes++) {
                if (method != 3 || processes == 2) {
                    asPlain(method, processes, new int[0], 3);
                }
            }
        }
    }

    // Promises 12 to 14: each instruction left out, one by one
    private static void exhibitsWithOneChangeAsPlain() {
        for (int method = 1; method <= 5; method++) {
            for (int i = 0; i < 33; i++) {
                asPlain(method, 2, new int[] {i, 0, 5, 0, 0}, 1);
            }
        }
    }

    private static void asPlain(int method, int processes, int[] change, int attempts) {
        LockMuseum x = new LockMuseum();
        PlainMuseum y = new PlainMuseum();
        x.exhibit(method, processes);
        y.exhibit(method, processes);
        String name = "exhibit " + method + " for " + processes;
        if (change.length == 5) {
            x.change(change[0], change[1], change[2], change[3], change[4]);
            y.change(change[0], change[1], change[2], change[3], change[4]);
            name += " without instruction " + change[0];
        }
        for (int n = 1; n <= attempts; n++) {
            judged(name, x, n, y.judge(n), y.states());
            Check.due(name + ": trail(-1)", x.trail(-1), y.trail(-1));
            for (int i = 0; i < Math.min(x.trail(-1), y.trail(-1)); i++) {
                Check.due(name + ": trail(" + i + ")", x.trail(i), y.trail(i));
            }
        }
    }

    // Promises 12 to 14: 0 both idle, 1 and 2 one inside (of process 0, of process 1), 3 process 0 done, 4 both inside
    private static void noLock() {
        LockMuseum x = museum(2, new int[][] {{12, 0, 0, 0}});
        judged("no lock for 2", x, 1, 1, 5);
        Check.due("no lock: trail(-1)", x.trail(-1), 2);
        Check.due("no lock: trail(0)", x.trail(0), 0);
        Check.due("no lock: trail(1)", x.trail(1), 1);
        x = museum(3, new int[][] {{12, 0, 0, 0}});
        judged("no lock for 3", x, 1, 1, 6);
        x = museum(1, new int[][] {{12, 0, 0, 0}});
        judged("no lock for 1", x, 1, 0, 3);
        Check.due("no lock for 1: trail(-1)", x.trail(-1), 0);
    }

    // Promise 14
    private static void trailLeadsThere() {
        LockMuseum x = new LockMuseum();
        x.exhibit(3, 2);
        x.change(6, 0, 5, 0, 0);
        judged("TWO without its turn", x, 1, 1, 46);
        Check.due("TWO without its turn: trail(-1)", x.trail(-1), 7);
        for (int i = 0; i < x.trail(-1); i++) {
            int p = x.trail(i);
            Check.due("not both are inside yet", x.about(0, 0) == 2 && x.about(1, 0) == 2 ? 1 : 0, 0);
            if (x.about(p, 0) == 0) {
                x.want(p);
            } else if (x.about(p, 0) == 2) {
                x.leave(p);
            }
            x.step(p);
        }
        Check.due("process 0 at the trail's end", x.about(0, 0), 2);
        Check.due("process 1 at the trail's end", x.about(1, 0), 2);
    }

    // Promise 12: each waits for the other's word to be 0 behind setting its own
    private static void stuck() {
        LockMuseum x = new LockMuseum();
        x.exhibit(3, 2);
        x.change(11, 5, 0, 0, 8);
        Check.due("TWO that only looks at the other's word", x.judge(1), 2);
        Check.due("stuck: trail(-1)", x.trail(-1), 0);
        // SWAP that never gives back: alone it can end once, but the second attempt can't.
        x = new LockMuseum();
        x.exhibit(1, 1);
        x.change(6, 0, 2, 1, 0);
        Check.due("SWAP that stays taken", x.judge(1), 0);
        Check.due("SWAP that stays taken", x.judge(2), 2);
    }

    // Promise 12: there are rounds without end, but from each state a way out
    private static void waitingIsNotStuck() {
        LockMuseum x = museum(2, new int[][] {
            {7, 2, 0, 6}, {0, 3, 0, 0}, {3, 2, 3, 5}, {0, 4, 0, 0}, {13, 0, 0, 0}, {8, 4, 1, 6}, {13, 0, 0, 0},
        });
        Check.due("no entry at all", x.judge(2), 0);
        LockMuseum y = new LockMuseum();
        y.exhibit(1, 3);
        Check.due("SWAP for 3", y.judge(2), 0);
    }

    // Promise 12: a lost one makes no moves, and the others go on
    private static void oneLost() {
        LockMuseum x = museum(2, new int[][] {{0, 2, 0, 0}, {3, 0, 2, 1}, {13, 0, 0, 0}});
        // Idle, 0 lost, 1 done, both.
        judged("process 0 is lost", x, 1, 2, 4);
        judged("process 0 is lost", x, 2, 2, 6);
    }

    // Promise 12: the attempts left make states differ
    private static void attemptsAreInTheState() {
        LockMuseum x = museum(1, new int[][] {{13, 0, 0, 0}});
        judged("DONE at once", x, 1, 0, 2);
        judged("DONE at once", x, 2, 0, 3);
        judged("DONE at once", x, 3, 0, 4);
        x = museum(3, new int[][] {{13, 0, 0, 0}});
        judged("DONE at once for 3", x, 3, 0, 64);
    }

    /** One process that makes many accesses, counted down by three registers: the states are those and 3 more. */
    private static int[][] chain(int low, int middle, int high) {
        return new int[][] {
            {0, 5, 0, 0}, {0, 2, low, 0}, {0, 3, middle, 0}, {0, 4, high, 0}, {7, 1, 7, 6}, {1, 2, 1, 0},
            {3, 2, 5, 8}, {5, 0, 0, 4}, {1, 3, 1, 0}, {3, 3, 5, 11}, {5, 0, 0, 4}, {1, 4, 1, 0}, {3, 4, 5, 14},
            {5, 0, 0, 4}, {12, 0, 0, 0}, {13, 0, 0, 0},
        };
    }

    // Promises 12 and 13: 3000 states are fine, 3001 are not
    private static void chainOf3000() {
        judged("a chain of 2999", museum(1, chain(12, 4, 4)), 1, 0, 2999);
        judged("a chain of 3000", museum(1, chain(11, 4, 4)), 1, 0, 3000);
        judged("a chain of 3001", museum(1, chain(10, 4, 4)), 1, 3, 3000);
        int[][] lost = chain(11, 4, 4);
        lost[15] = new int[] {5, 0, 0, 15};
        judged("a chain of 3000, lost at last", museum(1, lost), 1, 2, 3000);
    }

    /** Two that enter without a lock behind so many accesses; some accesses more lie behind the entry. */
    private static int[][] race(int low0, int high0, int low1, int high1, int behind) {
        int[][] rows = new int[16 + behind][];
        int[][] front = {
            {0, 5, 0, 0}, {3, 0, 5, 5}, {0, 3, low1, 0}, {0, 4, high1, 0}, {5, 0, 0, 7}, {0, 3, low0, 0},
            {0, 4, high0, 0}, {7, 2, 7, 6}, {1, 3, 1, 0}, {3, 3, 5, 11}, {5, 0, 0, 7}, {1, 4, 1, 0},
            {3, 4, 5, 14}, {5, 0, 0, 7}, {12, 0, 0, 0},
        };
        System.arraycopy(front, 0, rows, 0, 15);
        for (int i = 0; i < behind; i++) {
            rows[15 + i] = new int[] {7, 2, 7, 6};
        }
        rows[15 + behind] = new int[] {13, 0, 0, 0};
        return rows;
    }

    // Promises 12 to 14: two inside in the 3000th state found, and in the one that would be the 3001st
    private static void twoInsideAt3000() {
        LockMuseum x = museum(2, race(1, 11, 1, 14, 2));
        judged("two inside at 3000", x, 1, 1, 3000);
        Check.due("two inside at 3000: trail(-1)", x.trail(-1), 112);
        LockMuseum y = museum(2, race(13, 14, 1, 8, 1));
        judged("two inside at 3001", y, 1, 3, 3000);
        Check.due("two inside at 3001: trail(-1)", y.trail(-1), 0);
    }

    // Promise 12: whatever the words and processes are now
    private static void judgeBeginsAnew() {
        LockMuseum x = new LockMuseum();
        x.run(5, 33);
        judged("SWAP under way", x, 1, 0, 29);
        x.change(0, 5, 0, 0, 0);
        x.run(5, 20);
        x.mend();
        judged("SWAP with lost ones", x, 1, 0, 29);
    }

    // Promise 12
    private static void judgeChangesNothing() {
        for (int times = 0; times < 12; times++) {
            LockMuseum x = new LockMuseum();
            LockMuseum y = new LockMuseum();
            x.exhibit(2, 3);
            y.exhibit(2, 3);
            y.judge(1);
            x.run(21, times);
            y.run(21, times);
            y.judge(2);
            x.judge(2);
            Check.same("judge, then all that is told", Check.picture(y, 3), Check.picture(x, 3));
            Check.due("judge, then run", y.run(3, 40), x.run(3, 40));
            Check.same("judge, then run", Check.picture(y, 3), Check.picture(x, 3));
        }
    }

    // Promise 12
    private static void refused() {
        LockMuseum x = museum(2, new int[][] {{12, 0, 0, 0}});
        x.judge(1);
        x.run(2, 3);
        String before = Check.picture(x, 2);
        for (int attempts : new int[] {0, 4, -1, Integer.MIN_VALUE, Integer.MAX_VALUE}) {
            Check.refused("judge(" + attempts + ")", ARGUMENT, () -> x.judge(attempts));
        }
        Check.same("a refused judge", Check.picture(x, 2), before);
    }

    // Promises 13 and 14
    private static void nothingWasJudged() {
        LockMuseum x = new LockMuseum();
        Check.due("states()", x.states(), 0);
        Check.refused("judge(0)", ARGUMENT, () -> x.judge(0));
        Check.due("states() behind a refused judge", x.states(), 0);
        Check.due("trail(-1)", x.trail(-1), 0);
        Check.refused("trail(0)", INDEX, () -> x.trail(0));
    }

    // Promise 14
    private static void trailsThatAreNot() {
        LockMuseum x = museum(2, new int[][] {{12, 0, 0, 0}});
        x.judge(1);
        String before = Check.picture(x, 2);
        for (int i : new int[] {2, 3, -2, 3000, Integer.MIN_VALUE, Integer.MAX_VALUE}) {
            Check.refused("trail(" + i + ")", INDEX, () -> x.trail(i));
        }
        Check.same("a refused trail", Check.picture(x, 2), before);
    }

    // Promises 13 and 14
    private static void latestJudgementCounts() {
        LockMuseum x = new LockMuseum();
        x.change(0, 12, 0, 0, 0);
        x.change(1, 13, 0, 0, 0);
        judged("no lock", x, 1, 1, 5);
        x.mend();
        Check.due("mend: states()", x.states(), 5);
        Check.due("mend: trail(-1)", x.trail(-1), 2);
        judged("mended", x, 1, 0, 29);
        Check.due("mended: trail(-1)", x.trail(-1), 0);
        Check.refused("mended: trail(0)", INDEX, () -> x.trail(0));
        x.exhibit(4, 3);
        judged("too many", x, 1, 3, 3000);
        Check.due("too many: trail(-1)", x.trail(-1), 0);
    }
}
