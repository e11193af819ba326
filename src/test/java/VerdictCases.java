/** Promises 12 to 14: judge, states and trail. */
final class VerdictCases {
    private static final Class<IllegalArgumentException> ARGUMENT = IllegalArgumentException.class;
    private static final Class<IndexOutOfBoundsException> INDEX = IndexOutOfBoundsException.class;

    private VerdictCases() {
    }

    static void all() {
        Check.each(VerdictCases::eachVerdict, VerdictCases::leastAndMostAttempts,
            VerdictCases::oneJudgementBehindAnother, VerdictCases::attemptsBeyond, VerdictCases::statesOfNoJudgement,
            VerdictCases::statesOfTheLatestJudgement, VerdictCases::movesOfTheTrail, VerdictCases::lengthOfTheTrail,
            VerdictCases::noTrail, VerdictCases::noSuchMove);
    }

    private static LockMuseum noLock(int processes) {
        return Rows.museum(processes, Rows.enter());
    }

    private static void eachVerdict() {
        Document.says("Promise 12", "Judges the method with so many attempts a process: the verdict.");
        LockMuseum x = new LockMuseum();
        JudgeCases.judged("SWAP for two", x, 1, 0, 29);
        JudgeCases.judged("no lock for two", noLock(2), 1, 1, 5);
        JudgeCases.judged("lost at once", Rows.museum(1, Rows.go(0)), 1, 2, 2);
        x.exhibit(1, 3);
        JudgeCases.judged("SWAP for three", x, 1, 0, 153);
        x.exhibit(3, 2);
        JudgeCases.judged("TWO", x, 2, 0, 362);
        x.exhibit(4, 2);
        JudgeCases.judged("BAKERY for two", x, 1, 0, 269);
        x.exhibit(4, 3);
        JudgeCases.judged("BAKERY for three", x, 1, 3, 3000);
        x.exhibit(5, 3);
        JudgeCases.judged("LEVELS for three", x, 1, 3, 3000);
        Rows.put(x, 0, Rows.enter());
        JudgeCases.judged("the changed method, not the exhibit", x, 1, 1, 6);
    }

    private static void leastAndMostAttempts() {
        Document.says("Promise 12", "Judges the method with so many attempts a process: the verdict.");
        LockMuseum x = new LockMuseum();
        x.exhibit(1, 1);
        // Idle, behind the SWAP, inside, behind the WRITE, idle, which is the next attempt's first state.
        JudgeCases.judged("SWAP for one", x, 1, 0, 5);
        JudgeCases.judged("SWAP for one", x, 2, 0, 9);
        JudgeCases.judged("SWAP for one", x, 3, 0, 13);
    }

    private static void oneJudgementBehindAnother() {
        Document.says("Promise 12", "Judges the method with so many attempts a process: the verdict.");
        for (int method = 1; method <= 5; method++) {
            LockMuseum used = new LockMuseum();
            for (int i = 0; i < ExhibitCases.length(method); i++) {
                LockMuseum fresh = new LockMuseum();
                used.exhibit(method, 2);
                fresh.exhibit(method, 2);
                used.judge(1);
                Rows.put(used, i, Rows.set(5, 0));
                Rows.put(fresh, i, Rows.set(5, 0));
                String name = "exhibit " + method + " without instruction " + i + ", judged behind others";
                Check.due(name + ": judge(1)", used.judge(1), fresh.judge(1));
                Check.due(name + ": states()", used.states(), fresh.states());
                Check.due(name + ": trail(-1)", used.trail(-1), fresh.trail(-1));
            }
        }
        // In the first judgement the second attempt ends too; in the next one it doesn't, but the first one does.
        LockMuseum x = new LockMuseum();
        x.exhibit(1, 1);
        JudgeCases.judged("SWAP", x, 2, 0, 9);
        Rows.put(x, 6, Rows.set(2, 1));
        Check.due("SWAP that never gives back", x.judge(2), 2);
        Check.due("SWAP that never gives back, once", x.judge(1), 0);
        x.mend();
        JudgeCases.judged("SWAP again", x, 2, 0, 9);
    }

    private static void attemptsBeyond() {
        Document.says("Promise 12", "IllegalArgumentException if attempts is not 1 .. 3.");
        LockMuseum x = noLock(2);
        Check.taken("judge(3)", () -> x.judge(3));
        Check.taken("judge(1)", () -> x.judge(1));
        String before = Check.picture(x, 2);
        for (int attempts : new int[] {0, 4, 5, -1, Integer.MIN_VALUE, Integer.MAX_VALUE}) {
            Check.refused("judge(" + attempts + ")", ARGUMENT, () -> x.judge(attempts));
        }
        Check.same("a refused judge", Check.picture(x, 2), before);
    }

    private static void statesOfNoJudgement() {
        Document.says("Promise 13", "(0: none was made).");
        LockMuseum x = new LockMuseum();
        Check.due("a new object", x.states(), 0);
        Check.refused("judge(0)", ARGUMENT, () -> x.judge(0));
        Check.refused("judge(4)", ARGUMENT, () -> x.judge(4));
        Check.due("behind refused judgements", x.states(), 0);
        x.exhibit(5, 3);
        x.run(1, 100);
        x.mend();
        Check.due("behind other calls", x.states(), 0);
    }

    private static void statesOfTheLatestJudgement() {
        Document.says("Promise 13", "How many states the latest judgement found");
        LockMuseum x = new LockMuseum();
        x.exhibit(4, 3);
        JudgeCases.judged("too many", x, 1, 3, 3000);
        Check.due("states() again", x.states(), 3000);
        x.exhibit(1, 1);
        Check.due("behind exhibit", x.states(), 3000);
        Rows.put(x, 0, Rows.go(0));
        Check.due("behind change", x.states(), 3000);
        JudgeCases.judged("the fewest that there can be", x, 1, 2, 2);
        x.mend();
        Check.due("behind mend", x.states(), 2);
        x.run(1, 10);
        Check.due("behind run", x.states(), 2);
        Check.refused("judge(0)", ARGUMENT, () -> x.judge(0));
        Check.due("behind a refused judge", x.states(), 2);
        JudgeCases.judged("SWAP for one", x, 3, 0, 13);
    }

    private static void movesOfTheTrail() {
        Document.says("Promise 14", "Which process made move i of the trail;");
        LockMuseum x = noLock(3);
        x.judge(1);
        Check.due("trail(0)", x.trail(0), 0);
        Check.due("trail(1)", x.trail(1), 1);
        LockMuseum y = Rows.museum(3, Rows.like(0, 5, 0), Rows.enter());
        y.judge(1);
        Check.due("process 0 is lost: trail(0)", y.trail(0), 1);
        Check.due("process 0 is lost: trail(1)", y.trail(1), 2);
    }

    private static void lengthOfTheTrail() {
        Document.says("Promise 14", "how long it is if i is -1");
        LockMuseum x = noLock(2);
        x.judge(1);
        Check.due("no lock", x.trail(-1), 2);
        LockMuseum y = Rows.museum(2, Rows.read(2, 0, 6), Rows.enter());
        y.judge(1);
        Check.due("a READ ahead", y.trail(LockMuseum.NONE), 4);
        y.exhibit(2, 3);
        Check.due("behind exhibit", y.trail(-1), 4);
    }

    private static void noTrail() {
        Document.says("Promise 14", "(0 without one).");
        LockMuseum x = new LockMuseum();
        Check.due("nothing was judged", x.trail(-1), 0);
        x.judge(1);
        Check.due("verdict 0", x.trail(-1), 0);
        Rows.put(x, 0, Rows.enter());
        x.judge(1);
        Check.due("verdict 1", x.trail(-1), 2);
        Rows.put(x, 0, Rows.go(0));
        Check.due("verdict 2", x.judge(1) * 10 + x.trail(-1), 20);
        Rows.put(x, 0, Rows.enter());
        x.judge(1);
        x.exhibit(4, 3);
        Check.due("verdict 3", x.judge(1) * 10 + x.trail(-1), 30);
        x.exhibit(1, 2);
        Rows.put(x, 0, Rows.enter());
        x.judge(1);
        x.mend();
        Check.due("verdict 0 behind verdict 1", x.judge(1) * 10 + x.trail(-1), 0);
    }

    private static void noSuchMove() {
        Document.says("Promise 14", "IndexOutOfBoundsException if there is no such move.");
        LockMuseum x = noLock(2);
        Check.refused("nothing was judged: trail(0)", INDEX, () -> x.trail(0));
        x.judge(1);
        Check.taken("the last move", () -> x.trail(1));
        for (int i : new int[] {2, 3, 2999, 3000, -2, Integer.MIN_VALUE, Integer.MAX_VALUE}) {
            Check.refused("trail(" + i + ") of two moves", INDEX, () -> x.trail(i));
        }
        x.mend();
        Check.due("mended", x.judge(1), 0);
        for (int i : new int[] {0, 1, 2, -2}) {
            Check.refused("trail(" + i + ") without a trail", INDEX, () -> x.trail(i));
        }
    }
}
