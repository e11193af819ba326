/** Promises 1 to 4: a new object, exhibit, change and mend. */
final class SetUpCases {
    private static final Class<IllegalArgumentException> ARGUMENT = IllegalArgumentException.class;
    private static final Class<IndexOutOfBoundsException> INDEX = IndexOutOfBoundsException.class;
    private static final String NEW_FOR_TWO = "0 0 0 0 0 0 0 0 | 0 0 0 0 0 0 0 0 0 0 0 | 0 0 0 0 0 0 0 0 0 0 0 | 0 :";
    private static final String NEW_FOR_THREE = "0 0 0 0 0 0 0 0 | 0 0 0 0 0 0 0 0 0 0 0 | 0 0 0 0 0 0 0 0 0 0 0 "
        + "| 0 0 0 0 0 0 0 0 0 0 0 | 0 :";
    private static final int[] FAR = {-1, Integer.MIN_VALUE, Integer.MAX_VALUE};

    private SetUpCases() {
    }

    static void all() {
        Check.each(SetUpCases::newObject, SetUpCases::newObjectShowsSwap, SetUpCases::nothingWasJudged,
            SetUpCases::exhibitForSoMany, SetUpCases::exhibitClearsAll, SetUpCases::exhibitBringsItsInstructions,
            SetUpCases::exhibitKeepsTheJudgement, SetUpCases::noSuchExhibit, SetUpCases::notForSoMany,
            SetUpCases::changeMakesAnotherOne, SetUpCases::changeWhateverItMeans,
            SetUpCases::changeOfNoInstructionOrKind, SetUpCases::changeOfRegisters, SetUpCases::changeOfTheSeventhC,
            SetUpCases::changeOfWords, SetUpCases::changeOfNumbers, SetUpCases::changeOfInstructions,
            SetUpCases::refusedChangeKeepsTheInstruction, SetUpCases::mendBringsAllBack,
            SetUpCases::mendWithNothingToMend, SetUpCases::mendLeavesWordsAndProcesses);
    }

    private static void newObject() {
        Document.says("Promise 1", "Exhibit 1 with two processes;");
        LockMuseum x = new LockMuseum();
        Check.same("all that it tells", Check.picture(x, 2), NEW_FOR_TWO);
        Check.refused("a third process", ARGUMENT, () -> x.about(2, 0));
    }

    private static void newObjectShowsSwap() {
        Document.says("Promise 1", "Exhibit 1 with two processes;");
        LockMuseum x = new LockMuseum();
        x.want(0);
        Check.due("the SWAP", x.step(0), 1);
        Check.due("word 0 is taken", x.word(0), 1);
        Check.due("the ENTER", x.step(0), 2);
        x.want(1);
        Check.due("the other's SWAP", x.step(1), 1);
        Check.due("the other's next SWAP", x.step(1), 1);
        x.leave(0);
        Check.due("the WRITE", x.step(0), 3);
        Check.due("word 0 is free", x.word(0), 0);
        Check.due("the DONE", x.step(0), 0);
        Check.due("the other's SWAP of a free one", x.step(1), 1);
        Check.due("the other's ENTER", x.step(1), 2);
    }

    private static void nothingWasJudged() {
        Document.says("Promise 1", "nothing was judged.");
        LockMuseum x = new LockMuseum();
        Check.due("states()", x.states(), 0);
        Check.due("trail(-1)", x.trail(-1), 0);
        Check.refused("trail(0)", INDEX, () -> x.trail(0));
    }

    private static void exhibitForSoMany() {
        Document.says("Promise 2", "A method for so many processes; all words are 0, all are idle.");
        for (int method = 1; method <= 5; method++) {
            for (int n = method == 3 ? 2 : 1; n <= (method == 3 ? 2 : 3); n++) {
                LockMuseum x = new LockMuseum();
                int number = method;
                int processes = n;
                Check.taken("exhibit(" + method + ", " + n + ")", () -> x.exhibit(number, processes));
                Check.due("the last process is idle", x.about(n - 1, 0), 0);
                Check.refused("one process more", ARGUMENT, () -> x.want(processes));
                x.want(n - 1);
                Check.due("it knows how many there are", x.register(n - 1, 1), n);
            }
        }
    }

    /** All words are 15; process 0 is inside and 1 tries, past its door, overtaken; 2 is lost. */
    private static LockMuseum full() {
        LockMuseum x = Rows.museum(3, Rows.set(5, 2), Rows.like(0, 5, 15), Rows.door(), Rows.set(4, 15),
            Rows.write(4, 0, 6), Rows.write(4, 1, 6), Rows.write(4, 2, 6), Rows.write(4, 3, 6), Rows.write(4, 4, 6),
            Rows.write(4, 5, 6), Rows.write(4, 6, 6), Rows.write(4, 7, 6), Rows.enter(), Rows.done(), Rows.done(),
            Rows.go(15));
        Rows.begin(x, 1, 1);
        Rows.begin(x, 0, 9);
        Rows.begin(x, 2, 1);
        return x;
    }

    private static void exhibitClearsAll() {
        Document.says("Promise 2", "all words are 0, all are idle.");
        LockMuseum x = full();
        Check.same("ahead", Check.picture(x, 3), "15 15 15 15 15 15 15 15 | 0 3 0 0 15 2 2 13 0 0 9 "
            + "| 1 3 0 0 15 2 1 5 1 1 1 | 2 3 0 0 0 2 4 15 0 0 1 | 0 :");
        x.exhibit(1, 3);
        Check.same("behind, for three", Check.picture(x, 3), NEW_FOR_THREE);
        LockMuseum y = full();
        y.exhibit(1, 2);
        Check.same("behind, for two", Check.picture(y, 2), NEW_FOR_TWO);
        y.exhibit(2, 3);
        Check.same("and for three again", Check.picture(y, 3), NEW_FOR_THREE);
    }

    private static void exhibitBringsItsInstructions() {
        Document.says("Promise 2", "A method for so many processes;");
        for (int method = 1; method <= 5; method++) {
            Pair pair = new Pair("exhibit " + method + " behind 40 changes");
            for (int i = 0; i < 40; i++) {
                pair.change(i, Rows.enter());
            }
            pair.exhibit(method, 2);
            for (int k = 0; k < 12; k++) {
                pair.run(k, 7);
                pair.word(k % 8);
            }
            pair.judge(1);
            pair.compare();
        }
        LockMuseum x = new LockMuseum();
        Rows.put(x, 0, Rows.enter());
        x.exhibit(1, 2);
        x.want(0);
        Check.due("the same exhibit again brings its instruction 0", x.step(0), 1);
    }

    private static void exhibitKeepsTheJudgement() {
        Document.says("Promise 2", "A method for so many processes; all words are 0, all are idle.");
        LockMuseum x = Rows.museum(2, Rows.enter());
        Check.due("no lock", x.judge(1), 1);
        x.exhibit(4, 3);
        Check.due("states() of the latest judgement", x.states(), 5);
        Check.due("trail(-1) of the latest judgement", x.trail(-1), 2);
    }

    private static void noSuchExhibit() {
        Document.says("Promise 2", "IllegalArgumentException if there is no such exhibit,");
        LockMuseum x = new LockMuseum();
        for (int method : new int[] {0, 6, 7, -1, Integer.MIN_VALUE, Integer.MAX_VALUE}) {
            for (int n = 1; n <= 3; n++) {
                int processes = n;
                Check.refused("exhibit(" + method + ", " + n + ")", ARGUMENT, () -> x.exhibit(method, processes));
            }
        }
        Check.same("nothing has changed", Check.picture(x, 2), NEW_FOR_TWO);
    }

    private static void notForSoMany() {
        Document.says("Promise 2", "or it isn't for so many.");
        LockMuseum x = new LockMuseum();
        for (int method = 1; method <= 5; method++) {
            int number = method;
            for (int n : new int[] {0, 4, -1, -2, Integer.MIN_VALUE, Integer.MAX_VALUE}) {
                Check.refused("exhibit(" + method + ", " + n + ")", ARGUMENT, () -> x.exhibit(number, n));
            }
        }
        Check.refused("TWO for one", ARGUMENT, () -> x.exhibit(3, 1));
        Check.refused("TWO for three", ARGUMENT, () -> x.exhibit(3, 3));
        Check.same("nothing has changed", Check.picture(x, 2), NEW_FOR_TWO);
        Check.due("it still shows SWAP", x.judge(1) * 1000 + x.states(), 29);
    }

    private static void changeMakesAnotherOne() {
        Document.says("Promise 3", "Instruction i becomes another one");
        for (int i = 0; i < 40; i++) {
            LockMuseum x = Rows.museum(1, Rows.go(i));
            Rows.put(x, i, Rows.go((i + 1) % 40));
            Rows.put(x, i, Rows.fetch(3, i % 8, 1 + i % 15));
            x.want(0);
            Check.due("a FETCH as instruction " + i, x.step(0), 1);
            Check.due("its word", x.word(i % 8), 1 + i % 15);
        }
        LockMuseum x = new LockMuseum();
        Rows.begin(x, 0, 1);
        String before = Check.picture(x, 2);
        Rows.put(x, 2, Rows.done());
        Check.same("it does nothing by itself", Check.picture(x, 2), before);
        Check.due("a process that stands there does the other one", x.step(0), 0);
    }

    private static void changeWhateverItMeans() {
        Document.says("Promise 3", "(whatever it means).");
        LockMuseum x = new LockMuseum();
        for (int i = 0; i < 40; i++) {
            int at = i;
            Check.taken("GO to itself at " + i, () -> Rows.put(x, at, Rows.go(at)));
        }
        x.want(0);
        Check.due("a round without end", x.step(0), 4);
        Check.due("a method that only gets lost", x.judge(3), 2);
        LockMuseum y = new LockMuseum();
        for (int i = 0; i < 40; i++) {
            int at = i;
            Check.taken("DOOR at " + i, () -> Rows.put(y, at, Rows.door()));
        }
        y.want(0);
        Check.due("a method without an end", y.step(0), 4);
        Check.due("its place", y.about(0, 1), 40);
    }

    private static void changeOfNoInstructionOrKind() {
        Document.says("Promise 3", "IllegalArgumentException if there is no such instruction or kind,");
        LockMuseum x = new LockMuseum();
        for (int i : new int[] {-1, 40, 41, Integer.MIN_VALUE, Integer.MAX_VALUE}) {
            for (int kind = 0; kind < 14; kind++) {
                int known = kind;
                Check.refused("change(" + i + ", " + kind + ", 0, 0, 0)", ARGUMENT,
                    () -> x.change(i, known, 0, 0, 0));
            }
        }
        for (int kind : new int[] {-1, 14, 15, Integer.MIN_VALUE, Integer.MAX_VALUE}) {
            Check.refused("change(0, " + kind + ", 0, 0, 0)", ARGUMENT, () -> x.change(0, kind, 0, 0, 0));
            Check.refused("change(39, " + kind + ", 0, 0, 0)", ARGUMENT, () -> x.change(39, kind, 0, 0, 0));
            Check.refused("change(40, " + kind + ", 0, 0, 0)", ARGUMENT, () -> x.change(40, kind, 0, 0, 0));
        }
        for (int kind = 0; kind < 14; kind++) {
            int known = kind;
            Check.taken("change(0, " + kind + ", 0, 0, 0)", () -> x.change(0, known, 0, 0, 0));
            Check.taken("change(39, " + kind + ", 0, 0, 0)", () -> x.change(39, known, 0, 0, 0));
        }
    }

    /** Operand 0 .. 2 (a, b, c) of a kind takes 0 .. most, and nothing beyond. */
    private static void takes(int kind, int operand, int most) {
        LockMuseum x = new LockMuseum();
        for (int value = 0; value <= most; value++) {
            int[] row = row(kind, operand, value);
            Check.taken(form(row), () -> Rows.put(x, 39, row));
        }
        int[] above = row(kind, operand, most + 1);
        Check.refused(form(above), ARGUMENT, () -> Rows.put(x, 39, above));
        for (int far : FAR) {
            int[] row = row(kind, operand, far);
            Check.refused(form(row), ARGUMENT, () -> Rows.put(x, 39, row));
        }
    }

    private static int[] row(int kind, int operand, int value) {
        int[] row = {kind, 0, 0, 0};
        row[1 + operand] = value;
        return row;
    }

    private static String form(int[] row) {
        return "change(39, " + row[0] + ", " + row[1] + ", " + row[2] + ", " + row[3] + ")";
    }

    private static void changeOfRegisters() {
        Document.says("Promise 3", "or a register, word, number or instruction that is told isn't there (registers"
            + " 0 .. 5,");
        for (int kind : new int[] {0, 1, 2, 3, 4, 7, 8, 9, 10, 11}) {
            takes(kind, 0, 5);
        }
        for (int kind = 2; kind <= 4; kind++) {
            takes(kind, 1, 5);
        }
        takes(11, 2, 5);
    }

    private static void changeOfTheSeventhC() {
        Document.says("Promise 3", "c of 7 .. 9 up to 6,");
        for (int kind = 7; kind <= 9; kind++) {
            takes(kind, 2, 6);
        }
    }

    private static void changeOfWords() {
        Document.says("Promise 3", "words 0 .. 7,");
        for (int kind = 7; kind <= 11; kind++) {
            takes(kind, 1, 7);
        }
    }

    private static void changeOfNumbers() {
        Document.says("Promise 3", "numbers 0 .. 15,");
        takes(0, 1, 15);
        takes(1, 1, 15);
        takes(10, 2, 15);
    }

    private static void changeOfInstructions() {
        Document.says("Promise 3", "instructions 0 .. 39).");
        takes(3, 2, 39);
        takes(4, 2, 39);
        takes(5, 2, 39);
    }

    private static void refusedChangeKeepsTheInstruction() {
        Document.says("Promise 3", "IllegalArgumentException if there is no such instruction or kind, or a register,"
            + " word, number or instruction that is told isn't there");
        LockMuseum x = new LockMuseum();
        Check.refused("change(0, 0, 2, 16, 0)", ARGUMENT, () -> x.change(0, 0, 2, 16, 0));
        Check.refused("change(0, 14, 0, 0, 0)", ARGUMENT, () -> x.change(0, 14, 0, 0, 0));
        Check.refused("change(1, 9, 2, 3, 7)", ARGUMENT, () -> x.change(1, 9, 2, 3, 7));
        Check.refused("change(1, 7, 6, 3, 6)", ARGUMENT, () -> x.change(1, 7, 6, 3, 6));
        Check.refused("change(5, 5, 0, 0, 40)", ARGUMENT, () -> x.change(5, 5, 0, 0, 40));
        x.want(0);
        Check.due("the SWAP", x.step(0), 1);
        Check.due("its word", x.word(0), 1);
        Check.due("the ENTER", x.step(0), 2);
    }

    private static void mendBringsAllBack() {
        Document.says("Promise 4", "All instructions are the exhibit's again;");
        for (int method = 1; method <= 5; method++) {
            LockMuseum x = new LockMuseum();
            LockMuseum y = new LockMuseum();
            x.exhibit(method, 2);
            y.exhibit(method, 2);
            for (int i = 0; i < 40; i++) {
                Rows.put(x, i, Rows.enter());
            }
            x.mend();
            Check.due("exhibit " + method + ": judge(1)", x.judge(1), y.judge(1));
            Check.due("exhibit " + method + ": states()", x.states(), y.states());
            for (int seed = 0; seed < 20; seed++) {
                Check.due("exhibit " + method + ": run(" + seed + ", 50)", x.run(seed, 50), y.run(seed, 50));
            }
            Check.same("exhibit " + method, Check.picture(x, 2), Check.picture(y, 2));
            x.exhibit(method, 2);
            for (int i = ExhibitCases.length(method); i < 40; i++) {
                Rows.put(x, i, Rows.enter());
                x.mend();
                Rows.put(x, 0, Rows.go(i));
                x.want(0);
                Check.due("exhibit " + method + ": instruction " + i + " is DONE again", x.step(0), 0);
            }
        }
    }

    private static void mendWithNothingToMend() {
        Document.says("Promise 4", "All instructions are the exhibit's again;");
        LockMuseum x = new LockMuseum();
        x.mend();
        x.mend();
        Check.same("a new object", Check.picture(x, 2), NEW_FOR_TWO);
        Check.due("it shows SWAP", x.judge(1) * 1000 + x.states(), 29);
        x.exhibit(3, 2);
        Rows.put(x, 6, Rows.set(5, 0));
        Check.refused("a refused exhibit", ARGUMENT, () -> x.exhibit(3, 1));
        x.mend();
        Check.due("it shows TWO, which is the latest exhibit", x.judge(2) * 1000 + x.states(), 362);
    }

    private static void mendLeavesWordsAndProcesses() {
        Document.says("Promise 4", "words and processes stay.");
        LockMuseum x = full();
        String before = Check.picture(x, 3);
        x.mend();
        Check.same("mend", Check.picture(x, 3), before);
        LockMuseum y = Rows.museum(2, Rows.enter());
        y.judge(1);
        y.mend();
        Check.due("the latest judgement stays too", y.states(), 5);
    }
}
