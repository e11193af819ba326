import java.math.BigInteger;

/** Promise 11: run. */
final class RunCases {
    private static final Class<IllegalArgumentException> ARGUMENT = IllegalArgumentException.class;
    private static final int[] SEEDS = {
        0, 1, 2, 3, -1, -2, 77, 4096, 65535, 65536, 123456789, -987654321, Integer.MIN_VALUE, Integer.MAX_VALUE,
    };

    private RunCases() {
    }

    static void all() {
        Check.each(RunCases::seedsWrap, RunCases::seedsGoOn, RunCases::asSingleCalls, RunCases::attemptsWithoutEnd,
            RunCases::lostMakesNone, RunCases::howManyEntries, RunCases::entriesAreNotVisits, RunCases::noTimes,
            RunCases::mostTimes, RunCases::timesBeyond);
    }

    /** The seed that follows, in numbers without bounds: 0 .. 2^32 - 1. */
    private static BigInteger next(BigInteger seed) {
        BigInteger grown = seed.multiply(BigInteger.valueOf(1103515245)).add(BigInteger.valueOf(12345));
        return grown.mod(BigInteger.ONE.shiftLeft(32));
    }

    private static int drawn(BigInteger seed, int processes) {
        return seed.shiftRight(16).mod(BigInteger.valueOf(processes)).intValue();
    }

    private static void seedsWrap() {
        Document.says("Promise 11", "the seed becomes seed * 1103515245 + 12345 (wrapping), and process (seed >>> 16)"
            + " mod their number makes a move");
        for (int n = 1; n <= 3; n++) {
            for (int seed : SEEDS) {
                LockMuseum x = Rows.museum(n, Rows.read(2, 0, 6));
                int p = drawn(next(BigInteger.valueOf(seed)), n);
                Check.due("run(" + seed + ", 1)", x.run(seed, 1), 0);
                for (int q = 0; q < n; q++) {
                    Check.due("run(" + seed + ", 1) among " + n + ": steps of " + q, x.about(q, 4), q == p ? 1 : 0);
                }
            }
        }
    }

    private static void seedsGoOn() {
        Document.says("Promise 11", "Steps processes so many times: the seed becomes seed * 1103515245 + 12345"
            + " (wrapping),");
        for (int n = 1; n <= 3; n++) {
            for (int seed : SEEDS) {
                LockMuseum x = Rows.museum(n, Rows.read(2, 0, 6), Rows.go(0));
                x.run(seed, 100);
                int[] steps = new int[n];
                BigInteger now = BigInteger.valueOf(seed);
                for (int i = 0; i < 100; i++) {
                    now = next(now);
                    steps[drawn(now, n)]++;
                }
                for (int q = 0; q < n; q++) {
                    Check.due("run(" + seed + ", 100) among " + n + ": steps of " + q, x.about(q, 4), steps[q]);
                }
            }
        }
    }

    /** The same moves by want, step and leave, of which each takes at most three calls. */
    private static int byHand(LockMuseum x, int processes, int seed, int times) {
        int entries = 0;
        BigInteger now = BigInteger.valueOf(seed);
        for (int i = 0; i < times; i++) {
            now = next(now);
            int p = drawn(now, processes);
            int was = x.about(p, 0);
            if (was == 4) {
                continue;
            }
            if (was == 0) {
                x.want(p);
            }
            if (was == 2) {
                x.leave(p);
            }
            entries += x.step(p) == 2 ? 1 : 0;
        }
        return entries;
    }

    private static void asSingleCalls() {
        Document.says("Promise 11", "makes a move as the judge makes it");
        for (int method = 1; method <= 5; method++) {
            for (int n = method == 3 ? 2 : 1; n <= (method == 3 ? 2 : 3); n++) {
                for (int seed : SEEDS) {
                    LockMuseum x = new LockMuseum();
                    LockMuseum y = new LockMuseum();
                    x.exhibit(method, n);
                    y.exhibit(method, n);
                    String name = "exhibit " + method + " for " + n + ": run(" + seed + ", 140)";
                    Check.due(name, x.run(seed, 140), byHand(y, n, seed, 140));
                    Check.same(name, Check.picture(x, n), Check.picture(y, n));
                }
            }
        }
    }

    private static void attemptsWithoutEnd() {
        Document.says("Promise 11", "(with attempts without end; a lost one none).");
        LockMuseum x = Rows.museum(1, Rows.fetch(2, 0, 1), Rows.done());
        // FETCH and DONE are two moves: 10 attempts, and then the eleventh's FETCH.
        x.run(5, 21);
        Check.due("FETCHes of 11 attempts", x.word(0), 11);
        Check.due("trying still", x.about(0, 0), 1);
    }

    private static void lostMakesNone() {
        Document.says("Promise 11", "(with attempts without end; a lost one none).");
        LockMuseum x = Rows.museum(1, Rows.fetch(2, 0, 1), Rows.go(1));
        Check.due("a lost one's entries", x.run(5, 2000), 0);
        Check.same("a lost one", Check.picture(x, 1), "1 0 0 0 0 0 0 0 | 0 1 0 0 0 0 4 1 0 0 2 | 0 :");
        x.mend();
        x.run(6, 50);
        Check.same("it stays lost when the method is mended", Check.picture(x, 1),
            "1 0 0 0 0 0 0 0 | 0 1 0 0 0 0 4 1 0 0 2 | 0 :");
        // Process 0 is lost at once, and process 1 goes on.
        LockMuseum y = Rows.museum(2, Rows.like(0, 5, 0), Rows.enter(), Rows.done());
        int moves = 0;
        BigInteger now = BigInteger.valueOf(9);
        for (int i = 0; i < 60; i++) {
            now = next(now);
            moves += drawn(now, 2);
        }
        Check.due("the other one's entries", y.run(9, 60), (moves + 1) / 2);
        Check.due("the lost one", y.about(0, 0), 4);
        Check.due("the lost one's steps", y.about(0, 4), 1);
    }

    private static void howManyEntries() {
        Document.says("Promise 11", "How many entries there were.");
        LockMuseum x = Rows.museum(1, Rows.enter(), Rows.enter(), Rows.done());
        Check.due("in: run(3, 1)", x.run(3, 1), 1);
        Check.due("out: run(3, 1)", x.run(3, 1), 0);
        Check.due("in and out: run(3, 2)", x.run(3, 2), 1);
        Check.due("in, out, .. in: run(3, 9)", x.run(3, 9), 5);
        Check.due("out, in: run(3, 2)", x.run(3, 2), 1);
        LockMuseum y = Rows.museum(1, Rows.read(2, 0, 6), Rows.go(0));
        Check.due("none at all: run(3, 2000)", y.run(3, 2000), 0);
    }

    private static void entriesAreNotVisits() {
        Document.says("Promise 11", "How many entries there were.");
        // Process 0 enters; then process 1, which never enters, makes moves while 0 is inside.
        LockMuseum x = Rows.museum(2, Rows.like(0, 5, 3), Rows.read(2, 0, 6), Rows.go(1), Rows.enter());
        Rows.begin(x, 0, 1);
        int seed = 0;
        while (drawn(next(BigInteger.valueOf(seed)), 2) != 1) {
            seed++;
        }
        Check.due("one that was inside before is no entry", x.run(seed, 1), 0);
        Check.due("it is inside", x.about(0, 0), 2);
    }

    private static void noTimes() {
        Document.says("Promise 11", "IllegalArgumentException if times is not 0 .. 2000.");
        LockMuseum x = new LockMuseum();
        x.run(6, 7);
        String before = Check.picture(x, 2);
        Check.due("run(5, 0)", x.run(5, 0), 0);
        Check.same("run(5, 0)", Check.picture(x, 2), before);
    }

    private static void mostTimes() {
        Document.says("Promise 11", "IllegalArgumentException if times is not 0 .. 2000.");
        LockMuseum x = Rows.museum(1, Rows.enter(), Rows.done());
        Check.due("in and out: run(8, 2000)", x.run(8, 2000), 1000);
        Check.due("it is out", x.about(0, 0), 0);
        Check.due("in and out: run(8, 1999)", x.run(8, 1999), 1000);
        Check.due("it is in", x.about(0, 0), 2);
        for (int method = 1; method <= 5; method++) {
            Pair pair = new Pair("exhibit " + method);
            pair.exhibit(method, 2);
            pair.run(method, 2000);
            pair.compare();
        }
    }

    private static void timesBeyond() {
        Document.says("Promise 11", "IllegalArgumentException if times is not 0 .. 2000.");
        LockMuseum x = new LockMuseum();
        x.run(6, 7);
        String before = Check.picture(x, 2);
        for (int times : new int[] {-1, -2000, 2001, 2002, Integer.MIN_VALUE, Integer.MAX_VALUE}) {
            for (int seed : new int[] {0, 1, -1}) {
                Check.refused("run(" + seed + ", " + times + ")", ARGUMENT, () -> x.run(seed, times));
            }
        }
        Check.same("a refused run", Check.picture(x, 2), before);
    }
}
