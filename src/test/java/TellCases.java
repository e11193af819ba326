/** Promises 8 to 10: word, register and about. */
final class TellCases {
    private static final Class<IllegalArgumentException> ARGUMENT = IllegalArgumentException.class;
    private static final Class<IndexOutOfBoundsException> INDEX = IndexOutOfBoundsException.class;
    private static final int[] FAR = {-1, Integer.MIN_VALUE, Integer.MAX_VALUE};

    private TellCases() {
    }

    static void all() {
        Check.each(TellCases::eachWord, TellCases::noSuchWord, TellCases::eachRegister,
            TellCases::noSuchProcessOfARegister, TellCases::noSuchRegister, TellCases::whatItIs,
            TellCases::instructionThatIsNext, TellCases::pastItsDoor, TellCases::howOftenOvertaken,
            TellCases::howManySteps, TellCases::noSuchProcessOrWhat);
    }

    private static void eachWord() {
        Document.says("Promise 8", "A word.");
        int[][] rows = new int[16][];
        for (int i = 0; i < 8; i++) {
            rows[2 * i] = Rows.set(2, 15 - i);
            rows[2 * i + 1] = Rows.write(2, i, 6);
        }
        LockMuseum x = Rows.museum(1, rows);
        x.want(0);
        for (int i = 0; i < 8; i++) {
            x.step(0);
            for (int k = 0; k < 8; k++) {
                Check.due("word(" + k + ")", x.word(k), k <= i ? 15 - k : 0);
            }
        }
    }

    private static void noSuchWord() {
        Document.says("Promise 8", "IndexOutOfBoundsException if there is none such.");
        LockMuseum x = new LockMuseum();
        Check.due("word(0)", x.word(0), 0);
        Check.due("word(7)", x.word(7), 0);
        Check.refused("word(8)", INDEX, () -> x.word(8));
        for (int i : FAR) {
            Check.refused("word(" + i + ")", INDEX, () -> x.word(i));
        }
    }

    private static void eachRegister() {
        Document.says("Promise 9", "Register r of process p.");
        int[][] rows = new int[7][];
        for (int r = 0; r < 6; r++) {
            rows[r] = Rows.add(r, 10 + r);
        }
        rows[6] = Rows.enter();
        LockMuseum x = Rows.museum(3, rows);
        for (int p = 0; p < 3; p++) {
            Rows.begin(x, p, 1);
            int[] due = {10 + p, 14, 12, 13, 14, 15};
            for (int r = 0; r < 6; r++) {
                Check.due("register(" + p + ", " + r + ")", x.register(p, r), due[r]);
            }
            for (int q = p + 1; q < 3; q++) {
                Check.due("register 5 of one that is idle", x.register(q, 5), 0);
            }
        }
    }

    private static void noSuchProcessOfARegister() {
        Document.says("Promise 9", "IllegalArgumentException if there is no such process;");
        for (int n = 1; n <= 3; n++) {
            LockMuseum x = Rows.museum(n);
            int none = n;
            Check.refused("register(" + n + ", 0) among " + n, ARGUMENT, () -> x.register(none, 0));
            for (int p : FAR) {
                Check.refused("register(" + p + ", 0)", ARGUMENT, () -> x.register(p, 0));
                Check.refused("register(" + p + ", 6)", ARGUMENT, () -> x.register(p, 6));
            }
        }
    }

    private static void noSuchRegister() {
        Document.says("Promise 9", "IndexOutOfBoundsException if there is no such register.");
        for (int n = 1; n <= 3; n++) {
            LockMuseum x = Rows.museum(n);
            int last = n - 1;
            Check.due("register(" + last + ", 0)", x.register(last, 0), 0);
            Check.due("register(" + last + ", 5)", x.register(last, 5), 0);
            Check.refused("register(" + last + ", 6)", INDEX, () -> x.register(last, 6));
            for (int r : FAR) {
                Check.refused("register(" + last + ", " + r + ")", INDEX, () -> x.register(last, r));
            }
        }
    }

    /** Two READs, the door between them, and a READ behind the entry. */
    private static LockMuseum open(int processes) {
        return Rows.museum(processes, Rows.read(2, 0, 6), Rows.door(), Rows.read(2, 0, 6), Rows.enter(),
            Rows.read(2, 0, 6), Rows.done());
    }

    /** What about(1, what) answers all along an attempt of process 1: idle, want, 3 steps, leave, 2 steps. */
    private static void along(int what, int... due) {
        LockMuseum x = open(2);
        Check.due("idle, ahead of all", x.about(1, what), due[0]);
        x.want(1);
        Check.due("behind want", x.about(1, what), due[1]);
        for (int i = 0; i < 3; i++) {
            x.step(1);
            Check.due("behind step " + (i + 1), x.about(1, what), due[2 + i]);
        }
        x.leave(1);
        Check.due("behind leave", x.about(1, what), due[5]);
        x.step(1);
        Check.due("behind step 4", x.about(1, what), due[6]);
        x.step(1);
        Check.due("behind step 5, idle", x.about(1, what), due[7]);
        Check.due("the other one, idle all along", x.about(0, what), 0);
    }

    private static void whatItIs() {
        Document.says("Promise 10", "Of process p: 0 what it is,");
        along(0, 0, 1, 1, 1, 2, 3, 3, 0);
    }

    private static void instructionThatIsNext() {
        Document.says("Promise 10", "1 the instruction that is next (0 if it is idle),");
        along(1, 0, 0, 1, 3, 4, 4, 5, 0);
        LockMuseum x = Rows.museum(1, Rows.go(39));
        Rows.put(x, 39, Rows.read(2, 0, 6));
        Rows.begin(x, 0, 1);
        Check.due("behind the last instruction", x.about(0, 1), 40);
        LockMuseum y = Rows.museum(1, Rows.go(39));
        Rows.begin(y, 0, 1);
        Check.due("behind a DONE at 39", y.about(0, 1), 0);
    }

    private static void pastItsDoor() {
        Document.says("Promise 10", "2 whether it is past its door (1 or 0),");
        along(2, 0, 0, 0, 1, 0, 0, 0, 0);
    }

    private static void howOftenOvertaken() {
        Document.says("Promise 10", "3 how often it was overtaken since then,");
        along(3, 0, 0, 0, 0, 0, 0, 0, 0);
        LockMuseum x = open(2);
        Rows.begin(x, 1, 1);
        Rows.begin(x, 0, 3);
        x.leave(0);
        Rows.advance(x, 0, 2);
        Check.due("an entry ahead of its door isn't counted", x.about(1, 3), 0);
        x.step(1);
        for (int i = 1; i <= 20; i++) {
            Rows.begin(x, 0, 3);
            Check.due("behind so many entries", x.about(1, 3), i);
            x.leave(0);
            Rows.advance(x, 0, 2);
        }
        x.step(1);
        Check.due("when it has entered", x.about(1, 3), 20);
        x.leave(1);
        Rows.advance(x, 1, 2);
        Check.due("when it is idle", x.about(1, 3), 20);
        x.want(1);
        Check.due("when its next attempt begins", x.about(1, 3), 0);
    }

    private static void howManySteps() {
        Document.says("Promise 10", "4 how many steps its attempt made.");
        along(4, 0, 0, 1, 2, 3, 3, 4, 5);
        LockMuseum x = Rows.museum(1, Rows.read(2, 0, 6), Rows.go(0));
        Rows.begin(x, 0, 300);
        Check.due("300 steps", x.about(0, 4), 300);
        x.run(1, 2000);
        Check.due("2000 steps more", x.about(0, 4), 2300);
        Rows.put(x, 1, Rows.go(1));
        x.step(0);
        Check.due("the step in which it is lost", x.about(0, 4), 2301);
    }

    private static void noSuchProcessOrWhat() {
        Document.says("Promise 10", "IllegalArgumentException if there is no such process or what.");
        for (int n = 1; n <= 3; n++) {
            LockMuseum x = Rows.museum(n);
            int last = n - 1;
            int none = n;
            Check.taken("about(" + last + ", 4)", () -> x.about(last, 4));
            Check.refused("about(" + last + ", 5)", ARGUMENT, () -> x.about(last, 5));
            Check.refused("about(" + n + ", 0)", ARGUMENT, () -> x.about(none, 0));
            Check.refused("about(" + n + ", 5)", ARGUMENT, () -> x.about(none, 5));
            for (int far : FAR) {
                Check.refused("about(" + last + ", " + far + ")", ARGUMENT, () -> x.about(last, far));
                Check.refused("about(" + far + ", 0)", ARGUMENT, () -> x.about(far, 0));
                Check.refused("about(" + far + ", " + far + ")", ARGUMENT, () -> x.about(far, far));
            }
        }
    }
}
