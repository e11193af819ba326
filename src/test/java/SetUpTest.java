/** Promises 1 to 4: a new object, exhibit, change and mend. */
public final class SetUpTest {
    private static final Class<IllegalArgumentException> ARGUMENT = IllegalArgumentException.class;
    private static final String NEW_FOR_TWO = "0 0 0 0 0 0 0 0 | 0 0 0 0 0 0 0 0 0 0 0 | 0 0 0 0 0 0 0 0 0 0 0 | 0 :";

    public static void main(String[] args) {
        newObject();
        newObjectShowsSwap();
        exhibitsThatThereAre();
        exhibitsThatThereAreNot();
        exhibitClearsAll();
        exhibitKeepsTheJudgement();
        exhibitMends();
        refusedExhibitChangesNothing();
        exhibitsStepByStep();
        changeLooksAtWhatIsTold();
        changeTakesAnythingUntold();
        changeRefusesRowsAndKinds();
        refusedChangeChangesNothing();
        changeMeetsAProcessUnderWay();
        mendBringsBackTheExhibit();
        mendLeavesWordsAndProcesses();
        Check.finish();
    }

    // Promise 1
    private static void newObject() {
        LockMuseum x = new LockMuseum();
        Check.same("a new object", Check.picture(x, 2), NEW_FOR_TWO);
        Check.refused("new: about(2, 0)", ARGUMENT, () -> x.about(2, 0));
        Check.due("new: trail(-1)", x.trail(-1), 0);
        Check.due("new: states()", x.states(), 0);
    }

    // Promise 1
    private static void newObjectShowsSwap() {
        LockMuseum x = new LockMuseum();
        x.want(0);
        Check.due("SWAP: the first step", x.step(0), 1);
        Check.due("SWAP: word(0)", x.word(0), 1);
        Check.due("SWAP: about(0, 1)", x.about(0, 1), 2);
        Check.due("SWAP: the second step", x.step(0), 2);
        x.want(1);
        Check.due("SWAP: the other tries", x.step(1), 1);
        Check.due("SWAP: the other tries again", x.step(1), 1);
        x.leave(0);
        Check.due("SWAP: leaving", x.step(0), 3);
        Check.due("SWAP: word(0) is free", x.word(0), 0);
        Check.due("SWAP: done", x.step(0), 0);
        Check.due("SWAP: the other swaps", x.step(1), 1);
        Check.due("SWAP: the other enters", x.step(1), 2);
    }

    // Promise 2
    private static void exhibitsThatThereAre() {
        for (int method = 1; method <= 5; method++) {
            for (int processes = 1; processes <= 3; processes++) {
                if (method == 3 && processes != 2) {
                    continue;
                }
                LockMuseum x = new LockMuseum();
                x.exhibit(method, processes);
                int last = processes - 1;
                int none = processes;
                Check.due("exhibit " + method + ": the last process", x.about(last, 0), 0);
                Check.refused("exhibit " + method + ": one more", ARGUMENT, () -> x.about(none, 0));
            }
        }
    }

    // Promise 2
    private static void exhibitsThatThereAreNot() {
        int[][] wrong = {
            {0, 2}, {6, 2}, {-1, 2}, {1, 0}, {1, 4}, {2, -1}, {4, 0}, {5, 4}, {3, 1}, {3, 3}, {3, 0}, {0, 0},
            {Integer.MAX_VALUE, 2}, {Integer.MIN_VALUE, 2}, {2, Integer.MAX_VALUE}, {2, Integer.MIN_VALUE},
        };
        for (int[] w : wrong) {
            LockMuseum x = new LockMuseum();
            Check.refused("exhibit(" + w[0] + ", " + w[1] + ")", ARGUMENT, () -> x.exhibit(w[0], w[1]));
        }
    }

    // Promise 2
    private static void exhibitClearsAll() {
        LockMuseum x = new LockMuseum();
        x.exhibit(2, 3);
        x.run(9, 57);
        x.exhibit(1, 2);
        Check.same("exhibit behind a run", Check.picture(x, 2), NEW_FOR_TWO);
        x.exhibit(2, 3);
        Check.due("the third process is idle again", x.about(2, 0), 0);
        Check.due("it has made no steps", x.about(2, 4), 0);
        x.change(0, 5, 0, 0, 0);
        x.want(0);
        Check.due("lost", x.step(0), 4);
        x.exhibit(2, 3);
        Check.due("idle, not lost", x.about(0, 0), 0);
    }

    // Promises 2, 13 and 14: the latest judgement is still the latest one
    private static void exhibitKeepsTheJudgement() {
        LockMuseum x = new LockMuseum();
        x.change(0, 12, 0, 0, 0);
        Check.due("judge(1) of no lock", x.judge(1), 1);
        int states = x.states();
        x.exhibit(4, 3);
        Check.due("states() behind exhibit", x.states(), states);
        Check.due("trail(-1) behind exhibit", x.trail(-1), 2);
    }

    // Promise 2
    private static void exhibitMends() {
        LockMuseum x = new LockMuseum();
        x.change(39, 12, 0, 0, 0);
        x.change(0, 12, 0, 0, 0);
        x.exhibit(1, 2);
        x.want(0);
        Check.due("exhibit(1, 2) behind a change", x.step(0), 1);
    }

    // Promise 2
    private static void refusedExhibitChangesNothing() {
        LockMuseum x = new LockMuseum();
        x.change(5, 5, 0, 0, 0);
        x.judge(1);
        x.run(3, 9);
        String before = Check.picture(x, 2);
        Check.refused("exhibit(3, 3)", ARGUMENT, () -> x.exhibit(3, 3));
        Check.refused("exhibit(9, 1)", ARGUMENT, () -> x.exhibit(9, 1));
        Check.same("a refused exhibit", Check.picture(x, 2), before);
        Check.due("the changed instruction stays", x.judge(1), 2);
    }

    // Promise 2: each exhibit's first attempt of one alone, as the places behind its steps and at last 0
    private static void exhibitsStepByStep() {
        places(1, 1, new int[] {2, 6, 8, 0});
        places(2, 1, new int[] {1, 3, 6, 7, 0});
        places(3, 2, new int[] {6, 7, 9, 15, 17, 0});
        places(4, 1, new int[] {2, 6, 12, 14, 31, 32, 0});
        places(5, 1, new int[] {19, 21, 0});
        places(5, 2, new int[] {3, 4, 8, 19, 21, 0});
        places(4, 2, new int[] {2, 6, 6, 12, 14, 19, 22, 31, 32, 0});
    }

    private static void places(int method, int processes, int[] due) {
        LockMuseum x = new LockMuseum();
        x.exhibit(method, processes);
        x.want(0);
        for (int i = 0; i < due.length; i++) {
            if (x.about(0, 0) == 2) {
                x.leave(0);
            }
            x.step(0);
            Check.due("exhibit " + method + " for " + processes + ": place " + i, x.about(0, 1), due[i]);
        }
        Check.due("exhibit " + method + " for " + processes + ": at last", x.about(0, 0), 0);
    }

    /** For each kind, the greatest a, b and c; -1 where it isn't told. */
    private static final int[][] GREATEST = {
        {5, 15, -1}, {5, 15, -1}, {5, 5, -1}, {5, 5, 39}, {5, 5, 39}, {-1, -1, 39}, {-1, -1, -1},
        {5, 7, 6}, {5, 7, 6}, {5, 7, 6}, {5, 7, 15}, {5, 7, 5}, {-1, -1, -1}, {-1, -1, -1},
    };

    // Promise 3
    private static void changeLooksAtWhatIsTold() {
        LockMuseum x = new LockMuseum();
        for (int kind = 0; kind < 14; kind++) {
            for (int k = 0; k < 3; k++) {
                int greatest = GREATEST[kind][k];
                if (greatest == -1) {
                    continue;
                }
                attempt(x, kind, k, 0, true);
                attempt(x, kind, k, greatest, true);
                attempt(x, kind, k, -1, false);
                attempt(x, kind, k, greatest + 1, false);
                attempt(x, kind, k, Integer.MAX_VALUE, false);
                attempt(x, kind, k, Integer.MIN_VALUE, false);
            }
        }
    }

    // Promise 3
    private static void changeTakesAnythingUntold() {
        LockMuseum x = new LockMuseum();
        for (int kind = 0; kind < 14; kind++) {
            for (int k = 0; k < 3; k++) {
                if (GREATEST[kind][k] == -1) {
                    attempt(x, kind, k, -1, true);
                    attempt(x, kind, k, 40, true);
                    attempt(x, kind, k, Integer.MAX_VALUE, true);
                    attempt(x, kind, k, Integer.MIN_VALUE, true);
                }
            }
        }
        x.change(0, 0, 4, 7, -99);
        x.change(1, 5, 77, -77, 2);
        x.change(2, 12, 1000, -1, 64);
        x.want(0);
        Check.due("operands that aren't told mean nothing", x.step(0), 2);
        Check.due("register(0, 4)", x.register(0, 4), 7);
    }

    private static void attempt(LockMuseum x, int kind, int operand, int value, boolean fine) {
        int[] abc = new int[3];
        abc[operand] = value;
        String call = "change(3, " + kind + ", " + abc[0] + ", " + abc[1] + ", " + abc[2] + ")";
        if (fine) {
            int thrown = 0;
            try {
                x.change(3, kind, abc[0], abc[1], abc[2]);
            } catch (RuntimeException e) {
                thrown = 1;
            }
            Check.due(call + " throws", thrown, 0);
        } else {
            Check.refused(call, ARGUMENT, () -> x.change(3, kind, abc[0], abc[1], abc[2]));
        }
    }

    // Promise 3
    private static void changeRefusesRowsAndKinds() {
        LockMuseum x = new LockMuseum();
        for (int i : new int[] {-1, 40, Integer.MAX_VALUE, Integer.MIN_VALUE}) {
            Check.refused("change(" + i + ", 13, ..)", ARGUMENT, () -> x.change(i, 13, 0, 0, 0));
        }
        for (int kind : new int[] {-1, 14, Integer.MAX_VALUE, Integer.MIN_VALUE}) {
            Check.refused("change(0, " + kind + ", ..)", ARGUMENT, () -> x.change(0, kind, 0, 0, 0));
        }
        x.change(0, 5, 0, 0, 39);
        x.change(39, 12, 0, 0, 0);
        x.want(0);
        Check.due("instruction 39 can be changed", x.step(0), 2);
        Check.due("the place behind instruction 39", x.about(0, 1), 40);
    }

    // Promise 3
    private static void refusedChangeChangesNothing() {
        LockMuseum x = new LockMuseum();
        Check.refused("change(0, 0, 2, 16, 0)", ARGUMENT, () -> x.change(0, 0, 2, 16, 0));
        Check.refused("change(0, 12 -> 14)", ARGUMENT, () -> x.change(0, 14, 0, 0, 0));
        Check.refused("change(1, 9, 2, 3, 7)", ARGUMENT, () -> x.change(1, 9, 2, 3, 7));
        Check.refused("change(1, 7, 6, 3, 6)", ARGUMENT, () -> x.change(1, 7, 6, 3, 6));
        x.want(0);
        x.step(0);
        Check.due("word(0) as the exhibit makes it", x.word(0), 1);
        Check.due("the exhibit enters", x.step(0), 2);
        Check.due("the exhibit's states", x.judge(1) * 1000 + x.states(), 29);
    }

    // Promise 3
    private static void changeMeetsAProcessUnderWay() {
        LockMuseum x = new LockMuseum();
        x.want(0);
        x.step(0);
        String before = Check.picture(x, 2);
        x.change(2, 13, 0, 0, 0);
        Check.same("change alone moves nothing", Check.picture(x, 2), before);
        Check.due("the changed instruction is done", x.step(0), 0);
    }

    // Promise 4
    private static void mendBringsBackTheExhibit() {
        LockMuseum x = new LockMuseum();
        x.exhibit(3, 2);
        for (int i = 0; i < 40; i++) {
            x.change(i, 5, 0, 0, 0);
        }
        Check.due("all GO to 0: judge(2)", x.judge(2), 2);
        x.mend();
        Check.due("mended: judge(2)", x.judge(2), 0);
        Check.due("mended: states()", x.states(), 362);
        x.change(0, 5, 0, 0, 30);
        x.want(0);
        Check.due("behind the exhibit's instructions is DONE", x.step(0), 0);
    }

    // Promise 4
    private static void mendLeavesWordsAndProcesses() {
        LockMuseum x = new LockMuseum();
        x.exhibit(2, 3);
        x.change(5, 6, 0, 0, 0);
        x.judge(1);
        x.run(11, 23);
        String before = Check.picture(x, 3);
        x.mend();
        Check.same("mend", Check.picture(x, 3), before);
    }
}
