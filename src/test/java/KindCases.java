/** Terms: words and registers, and what each kind of instruction does at its edges. */
final class KindCases {
    private static final String TERMS = "Terms";
    private static final Class<IllegalArgumentException> ARGUMENT = IllegalArgumentException.class;
    private static final Class<IndexOutOfBoundsException> INDEX = IndexOutOfBoundsException.class;

    private KindCases() {
    }

    static void all() {
        Check.each(KindCases::howManyThereAre, KindCases::sumsGoRound, KindCases::fullOnesGoRoundAlone,
            KindCases::fortyInstructions, KindCases::untoldMeansNothing, KindCases::set, KindCases::add,
            KindCases::copy, KindCases::like, KindCases::less, KindCases::goTo, KindCases::door,
            KindCases::wordsNumbersGoRound, KindCases::registerThatIsAlsoTheIndex, KindCases::fetch,
            KindCases::tryThatFits, KindCases::tryThatDoesNotFit, KindCases::enter, KindCases::done);
    }

    /** A museum for one, whose process has made so many steps of these instructions. */
    private static LockMuseum after(int steps, int[]... rows) {
        LockMuseum x = Rows.museum(1, rows);
        Rows.begin(x, 0, steps);
        return x;
    }

    private static void howManyThereAre() {
        Document.says(TERMS, "There are 8 shared WORDS and 1 .. 3 PROCESSES, each with REGISTERS 0 .. 5;");
        for (int n = 1; n <= 3; n++) {
            LockMuseum x = new LockMuseum();
            int processes = n;
            Check.taken("exhibit(1, " + n + ")", () -> x.exhibit(1, processes));
            Check.due("the last word", x.word(7), 0);
            Check.refused("a ninth word", INDEX, () -> x.word(8));
            Check.due("the last process", x.about(n - 1, 0), 0);
            Check.refused("one process more", ARGUMENT, () -> x.about(processes, 0));
            Check.due("the last register", x.register(n - 1, 5), 0);
            Check.refused("a seventh register", INDEX, () -> x.register(0, 6));
        }
        LockMuseum x = new LockMuseum();
        Check.refused("no process", ARGUMENT, () -> x.exhibit(1, 0));
        Check.refused("a fourth process", ARGUMENT, () -> x.exhibit(1, 4));
    }

    private static void sumsGoRound() {
        Document.says(TERMS, "all of them hold 0 .. 15, sums go round.");
        for (int v = 0; v < 16; v++) {
            for (int more = 0; more < 16; more++) {
                LockMuseum x = after(3, Rows.set(2, v), Rows.add(2, more), Rows.write(2, 0, 6),
                    Rows.fetch(3, 1, v), Rows.fetch(4, 1, more));
                int due = v + more < 16 ? v + more : v + more - 16;
                Check.due("a register " + v + " and " + more, x.register(0, 2), due);
                Check.due("a word that holds it", x.word(0), due);
                Check.due("a word " + v + " and " + more, x.word(1), due);
                Check.due("the word ahead of that", x.register(0, 4), v);
            }
        }
    }

    private static void fullOnesGoRoundAlone() {
        Document.says(TERMS, "all of them hold 0 .. 15, sums go round.");
        for (int others : new int[] {0, 15}) {
            for (int one = 0; one < 6; one++) {
                registerGoesRound(one, others);
            }
            for (int one = 0; one < 8; one++) {
                wordGoesRound(one, others);
            }
        }
    }

    private static void registerGoesRound(int one, int others) {
        int[][] rows = new int[8][];
        for (int r = 0; r < 6; r++) {
            rows[r] = Rows.set(r, r == one ? 15 : others);
        }
        rows[6] = Rows.add(one, 3);
        rows[7] = Rows.enter();
        LockMuseum x = after(1, rows);
        for (int r = 0; r < 6; r++) {
            Check.due("register " + r + " when " + one + " went round", x.register(0, r), r == one ? 2 : others);
        }
    }

    private static void wordGoesRound(int one, int others) {
        int[][] rows = new int[11][];
        rows[0] = Rows.set(2, 15);
        rows[1] = Rows.set(3, others);
        for (int i = 0; i < 8; i++) {
            rows[2 + i] = Rows.write(i == one ? 2 : 3, i, 6);
        }
        rows[10] = Rows.fetch(4, one, 3);
        LockMuseum x = after(8, rows);
        Check.due("word " + one + " is full", x.word(one), 15);
        x.step(0);
        for (int i = 0; i < 8; i++) {
            Check.due("word " + i + " when " + one + " went round", x.word(i), i == one ? 2 : others);
        }
        Check.due("register 4 becomes the full word", x.register(0, 4), 15);
    }

    private static void fortyInstructions() {
        Document.says(TERMS, "A METHOD has 40 INSTRUCTIONS, numbered from 0, each a kind and a, b, c");
        for (int i = 0; i < 40; i++) {
            LockMuseum x = Rows.museum(1, Rows.go(i));
            Rows.put(x, i, Rows.enter());
            x.want(0);
            Check.due("an ENTER as instruction " + i, x.step(0), 2);
            Check.due("the place behind it", x.about(0, 1), i + 1);
        }
        LockMuseum x = new LockMuseum();
        Check.refused("an instruction ahead of 0", ARGUMENT, () -> Rows.put(x, -1, Rows.enter()));
        Check.refused("instruction 40", ARGUMENT, () -> Rows.put(x, 40, Rows.enter()));
    }

    private static void untoldMeansNothing() {
        Document.says(TERMS, "(those that aren't told mean nothing):");
        for (int odd : new int[] {-1, 6, 40, Integer.MIN_VALUE, Integer.MAX_VALUE}) {
            LockMuseum x = Rows.museum(1);
            Check.taken("SET 4 7 " + odd, () -> x.change(0, 0, 4, 7, odd));
            Check.taken("ADD 4 2 " + odd, () -> x.change(1, 1, 4, 2, odd));
            Check.taken("COPY 5 4 " + odd, () -> x.change(2, 2, 5, 4, odd));
            Check.taken("DOOR " + odd, () -> x.change(3, 6, odd, odd, odd));
            Check.taken("GO " + odd + " " + odd + " 6", () -> x.change(4, 5, odd, odd, 6));
            Rows.put(x, 5, Rows.set(4, 0));
            Rows.put(x, 6, Rows.write(5, 2, 6));
            Check.taken("ENTER " + odd, () -> x.change(7, 12, odd, odd, odd));
            Check.taken("DONE " + odd, () -> x.change(8, 13, odd, odd, odd));
            Rows.begin(x, 0, 1);
            Check.same("up to the WRITE", Check.picture(x, 1), "0 0 9 0 0 0 0 0 | 0 1 0 0 9 9 1 7 1 0 1 | 0 :");
            Check.due("the ENTER", x.step(0), 2);
            x.leave(0);
            Check.due("the DONE", x.step(0), 0);
        }
    }

    private static void set() {
        Document.says(TERMS, "FREE: 0 SET register a to b (0 .. 15).");
        for (int r = 0; r < 6; r++) {
            int least = after(1, Rows.set(r, 9), Rows.set(r, 0), Rows.enter()).register(0, r);
            Check.due("register " + r + " set to 0", least, 0);
            int most = after(1, Rows.set(r, 15), Rows.enter()).register(0, r);
            Check.due("register " + r + " set to 15", most, 15);
        }
        LockMuseum x = new LockMuseum();
        Check.refused("SET 2 16", ARGUMENT, () -> Rows.put(x, 0, Rows.set(2, 16)));
        Check.refused("SET 2 -1", ARGUMENT, () -> Rows.put(x, 0, Rows.set(2, -1)));
        Check.refused("SET 6 0", ARGUMENT, () -> Rows.put(x, 0, Rows.set(6, 0)));
    }

    private static void add() {
        Document.says(TERMS, "1 ADD b (0 .. 15) to register a.");
        for (int r = 0; r < 6; r++) {
            int nothing = after(1, Rows.set(r, 15), Rows.add(r, 0), Rows.enter()).register(0, r);
            Check.due("0 added to register " + r, nothing, 15);
            int round = after(1, Rows.set(r, 15), Rows.add(r, 1), Rows.enter()).register(0, r);
            Check.due("1 added to the full register " + r, round, 0);
            int most = after(1, Rows.set(r, 15), Rows.add(r, 15), Rows.enter()).register(0, r);
            Check.due("15 added to the full register " + r, most, 14);
        }
        LockMuseum x = new LockMuseum();
        Check.refused("ADD 2 16", ARGUMENT, () -> Rows.put(x, 0, Rows.add(2, 16)));
        Check.refused("ADD 2 -1", ARGUMENT, () -> Rows.put(x, 0, Rows.add(2, -1)));
    }

    private static void copy() {
        Document.says(TERMS, "2 COPY register b to a.");
        LockMuseum x = after(1, Rows.set(0, 15), Rows.set(3, 4), Rows.copy(5, 0), Rows.copy(0, 2), Rows.copy(3, 3),
            Rows.enter());
        Check.due("COPY 5 0", x.register(0, 5), 15);
        Check.due("COPY 0 2", x.register(0, 0), 0);
        Check.due("COPY 3 3", x.register(0, 3), 4);
        Check.due("what was copied of", x.register(0, 2), 0);
    }

    /** Where a jump leads when registers 2 and 3 hold these: all but the first three are ENTER. */
    private static int target(int two, int three, int[] jump) {
        LockMuseum x = Rows.museum(1, Rows.set(2, two), Rows.set(3, three), jump);
        for (int i = 3; i < 40; i++) {
            Rows.put(x, i, Rows.enter());
        }
        Rows.begin(x, 0, 1);
        return x.about(0, 1) - 1;
    }

    private static void like() {
        Document.says(TERMS, "3 LIKE: if registers a and b are alike, to instruction c.");
        Check.due("0 and 0", target(0, 0, Rows.like(2, 3, 39)), 39);
        Check.due("15 and 15", target(15, 15, Rows.like(2, 3, 39)), 39);
        Check.due("0 and 15", target(0, 15, Rows.like(2, 3, 39)), 3);
        Check.due("15 and 0", target(15, 0, Rows.like(2, 3, 39)), 3);
        Check.due("7 and 8", target(7, 8, Rows.like(2, 3, 39)), 3);
        Check.due("a register and itself", target(9, 8, Rows.like(2, 2, 39)), 39);
        LockMuseum back = after(1, Rows.like(2, 4, 2), Rows.enter(), Rows.set(4, 1), Rows.like(2, 3, 0));
        Check.due("to instruction 0", back.about(0, 1), 2);
    }

    private static void less() {
        Document.says(TERMS, "4 LESS: if register a is below b, to c.");
        Check.due("0 and 0", target(0, 0, Rows.less(2, 3, 39)), 3);
        Check.due("15 and 15", target(15, 15, Rows.less(2, 3, 39)), 3);
        Check.due("14 and 15", target(14, 15, Rows.less(2, 3, 39)), 39);
        Check.due("15 and 14", target(15, 14, Rows.less(2, 3, 39)), 3);
        Check.due("0 and 15", target(0, 15, Rows.less(2, 3, 39)), 39);
        Check.due("15 and 0", target(15, 0, Rows.less(2, 3, 39)), 3);
        Check.due("7 and 8", target(7, 8, Rows.less(2, 3, 39)), 39);
        Check.due("a register and itself", target(9, 8, Rows.less(2, 2, 39)), 3);
        LockMuseum back = after(1, Rows.like(2, 4, 2), Rows.enter(), Rows.set(4, 1), Rows.less(2, 4, 0));
        Check.due("to instruction 0", back.about(0, 1), 2);
    }

    private static void goTo() {
        Document.says(TERMS, "5 GO to c.");
        Check.due("to 39", target(0, 0, Rows.go(39)), 39);
        Check.due("to the next one", target(0, 0, Rows.go(3)), 3);
        LockMuseum back = after(1, Rows.like(2, 4, 2), Rows.enter(), Rows.set(4, 1), Rows.go(0));
        Check.due("to instruction 0", back.about(0, 1), 2);
        LockMuseum x = new LockMuseum();
        Check.refused("to 40", ARGUMENT, () -> Rows.put(x, 0, Rows.go(40)));
        Check.refused("to -1", ARGUMENT, () -> Rows.put(x, 0, Rows.go(-1)));
    }

    private static void door() {
        Document.says(TERMS, "6 DOOR: the process is past its door.");
        LockMuseum x = after(1, Rows.read(2, 0, 6), Rows.door(), Rows.door(), Rows.read(2, 0, 6), Rows.read(2, 0, 6));
        Check.due("ahead of it", x.about(0, 2), 0);
        x.step(0);
        Check.due("past two of them", x.about(0, 2), 1);
        x.step(0);
        Check.due("still past them", x.about(0, 2), 1);
    }

    private static void wordsNumbersGoRound() {
        Document.says(TERMS, "SHARED: 7 READ to register a, 8 WRITE register a to, 9 SWAP register a with the word"
            + " b + (register c, or 0 if c is 6), mod 8.");
        for (int b = 0; b < 8; b++) {
            for (int held = 0; held < 16; held++) {
                accesses(b, held, 5, (b + held) % 8);
            }
            accesses(b, 15, 6, b);
        }
    }

    /** WRITE, SWAP and READ with b and c must meet this word and no other, while register 5 holds so much. */
    private static void accesses(int b, int held, int c, int met) {
        LockMuseum x = after(1, Rows.set(5, held), Rows.set(2, 9), Rows.write(2, b, c), Rows.set(3, 12),
            Rows.swap(3, b, c), Rows.read(4, b, c));
        String name = "b " + b + ", c " + c + ", register 5 " + held;
        wordsAreZeroBut(name + ": WRITE", x, met, 9);
        Check.due(name + ": WRITE keeps the register", x.register(0, 2), 9);
        x.step(0);
        wordsAreZeroBut(name + ": SWAP", x, met, 12);
        Check.due(name + ": SWAP brings the word", x.register(0, 3), 9);
        x.step(0);
        wordsAreZeroBut(name + ": READ", x, met, 12);
        Check.due(name + ": READ brings the word", x.register(0, 4), 12);
    }

    private static void wordsAreZeroBut(String name, LockMuseum x, int one, int value) {
        for (int i = 0; i < 8; i++) {
            Check.due(name + ": word " + i, x.word(i), i == one ? value : 0);
        }
    }

    private static void registerThatIsAlsoTheIndex() {
        Document.says(TERMS, "9 SWAP register a with the word b + (register c, or 0 if c is 6), mod 8.");
        LockMuseum x = after(1, Rows.set(2, 11), Rows.swap(2, 6, 2), Rows.set(2, 10), Rows.read(2, 7, 2),
            Rows.write(2, 5, 2));
        wordsAreZeroBut("SWAP 2 6 2", x, 1, 11);
        Check.due("SWAP 2 6 2", x.register(0, 2), 0);
        x.step(0);
        Check.due("READ 2 7 2", x.register(0, 2), 11);
        x.step(0);
        Check.due("WRITE 2 5 2", x.word(0), 11);
    }

    private static void fetch() {
        Document.says(TERMS, "10 FETCH: register a becomes word b, to which c (0 .. 15) is added.");
        LockMuseum x = after(1, Rows.fetch(2, 7, 15), Rows.fetch(3, 7, 15), Rows.fetch(4, 7, 0), Rows.fetch(0, 0, 1));
        Check.due("15 to the word 0: register 2", x.register(0, 2), 0);
        wordsAreZeroBut("15 to the word 0", x, 7, 15);
        x.step(0);
        Check.due("15 to the full word: register 3", x.register(0, 3), 15);
        wordsAreZeroBut("15 to the full word", x, 7, 14);
        x.step(0);
        Check.due("0 to the word: register 4", x.register(0, 4), 14);
        wordsAreZeroBut("0 to the word", x, 7, 14);
        x.step(0);
        Check.due("FETCH of word 0", x.word(0), 1);
        LockMuseum y = new LockMuseum();
        Check.refused("FETCH 2 7 16", ARGUMENT, () -> Rows.put(y, 0, Rows.fetch(2, 7, 16)));
        Check.refused("FETCH 2 7 -1", ARGUMENT, () -> Rows.put(y, 0, Rows.fetch(2, 7, -1)));
        Check.refused("FETCH 2 8 0", ARGUMENT, () -> Rows.put(y, 0, Rows.fetch(2, 8, 0)));
    }

    private static void tryThatFits() {
        Document.says(TERMS, "11 TRY: if word b is as register a, it becomes as register c, and register a 1;");
        for (int b : new int[] {0, 7}) {
            LockMuseum x = after(1, Rows.set(3, 15), Rows.attempt(2, b, 3), Rows.set(2, 15), Rows.attempt(2, b, 5),
                Rows.attempt(5, b, 5));
            wordsAreZeroBut("0 becomes 15", x, b, 15);
            Check.due("0 becomes 15: register 2", x.register(0, 2), 1);
            Check.due("0 becomes 15: register 3", x.register(0, 3), 15);
            x.step(0);
            wordsAreZeroBut("15 becomes 0", x, b, 0);
            Check.due("15 becomes 0: register 2", x.register(0, 2), 1);
            x.step(0);
            wordsAreZeroBut("a register for both, as it was", x, b, 0);
            Check.due("a register for both, as it is", x.register(0, 5), 1);
        }
    }

    private static void tryThatDoesNotFit() {
        Document.says(TERMS, "otherwise register a becomes 0. (b 0 .. 7.)");
        for (int b : new int[] {0, 7}) {
            LockMuseum x = after(2, Rows.set(2, 14), Rows.set(3, 15), Rows.write(3, b, 6), Rows.attempt(2, b, 4),
                Rows.set(2, 5), Rows.set(4, 5), Rows.attempt(2, b, 2));
            wordsAreZeroBut("15 is not 14", x, b, 15);
            Check.due("15 is not 14: register 2", x.register(0, 2), 0);
            x.step(0);
            wordsAreZeroBut("a register for both", x, b, 15);
            Check.due("a register for both", x.register(0, 2), 0);
            Check.due("a register like it stays", x.register(0, 4), 5);
        }
        LockMuseum y = new LockMuseum();
        Check.refused("TRY 2 8 3", ARGUMENT, () -> Rows.put(y, 0, Rows.attempt(2, 8, 3)));
        Check.refused("TRY 2 -1 3", ARGUMENT, () -> Rows.put(y, 0, Rows.attempt(2, -1, 3)));
    }

    private static void enter() {
        Document.says(TERMS, "12 ENTER: the process is inside.");
        LockMuseum x = Rows.museum(1, Rows.enter());
        x.want(0);
        Check.due("as the first instruction", x.step(0), 2);
        Check.due("it stays inside", x.about(0, 0), 2);
    }

    private static void done() {
        Document.says(TERMS, "13 DONE: its attempt is over: it is idle, its registers are 0, it is past its door no"
            + " more (how often it was overtaken, and its steps, stay until its next attempt begins).");
        LockMuseum x = Rows.museum(2, Rows.set(4, 15), Rows.door(), Rows.read(2, 0, 6), Rows.like(0, 5, 5),
            Rows.done(), Rows.enter());
        Rows.begin(x, 1, 1);
        Rows.begin(x, 0, 2);
        Check.due("idle", x.step(1), 0);
        for (int r = 0; r < 6; r++) {
            Check.due("register " + r, x.register(1, r), 0);
        }
        Check.due("the place", x.about(1, 1), 0);
        Check.due("past its door", x.about(1, 2), 0);
        Check.due("overtaken stays", x.about(1, 3), 1);
        Check.due("steps stay", x.about(1, 4), 2);
        x.want(1);
        Check.due("overtaken in the next attempt", x.about(1, 3), 0);
        Check.due("steps in the next attempt", x.about(1, 4), 0);
    }
}
