/** Terms: the judge, its states, verdict and trail. */
final class JudgeCases {
    private static final String TERMS = "Terms";
    private static final String STATE = "(A state is the words, and for each process what it is, its place (0 if it is"
        + " idle), its registers (0 if it is idle) and how many attempts it has left.)";
    private static final String TOO_MANY = "3 more than 3000 states would be found (it ends there, ahead of 1);";

    private JudgeCases() {
    }

    static void all() {
        Check.each(JudgeCases::fromTheStateInWhichAllIsZero, JudgeCases::upToSoManyAttempts, JudgeCases::moves,
            JudgeCases::statesDifferInWords, JudgeCases::statesDifferInWhatAndPlace,
            JudgeCases::statesDifferInRegisters, JudgeCases::statesDifferInNothingElse, JudgeCases::orderOfStates,
            JudgeCases::twoInside, JudgeCases::oneInsideIsNotTwo, JudgeCases::threeThousandStates,
            JudgeCases::twoInsideAsTheLastOnes, JudgeCases::stuck, JudgeCases::notStuck,
            JudgeCases::trailIsTheWayFoundFirst, JudgeCases::trailLeadsThere, JudgeCases::longTrail,
            JudgeCases::exhibitsAsPlain, JudgeCases::exhibitsWithOneChangeAsPlain, JudgeCases::judgeChangesNothing);
    }

    static void judged(String name, LockMuseum x, int attempts, int verdict, int states) {
        Check.due(name + ": judge(" + attempts + ")", x.judge(attempts), verdict);
        Check.due(name + ": states()", x.states(), states);
    }

    private static void trailIs(String name, LockMuseum x, int... due) {
        int length = x.trail(-1);
        Check.due(name + ": trail(-1)", length, due.length);
        for (int i = 0; i < due.length && i < length; i++) {
            Check.due(name + ": trail(" + i + ")", x.trail(i), due[i]);
        }
    }

    private static void fromTheStateInWhichAllIsZero() {
        Document.says(TERMS, "The JUDGE goes through all STATES that can come when each process makes up to so many"
            + " attempts: from the state in which all words are 0 and all are idle,");
        LockMuseum x = new LockMuseum();
        judged("SWAP", x, 1, 0, 29);
        Rows.begin(x, 0, 1);
        Check.due("word 0 is taken", x.word(0), 1);
        judged("SWAP with a taken word", x, 1, 0, 29);
        Rows.put(x, 0, Rows.go(0));
        Rows.begin(x, 1, 1);
        Check.due("process 1 is lost", x.about(1, 0), 4);
        x.mend();
        judged("SWAP with a lost one", x, 1, 0, 29);
    }

    private static void upToSoManyAttempts() {
        Document.says(TERMS, "when each process makes up to so many attempts:");
        for (int n = 1; n <= 3; n++) {
            int states = 1;
            for (int attempts = 1; attempts <= 3; attempts++) {
                // Each process has 0 .. attempts of them left, whatever the others have.
                states = attempts + 1;
                for (int p = 1; p < n; p++) {
                    states *= attempts + 1;
                }
                judged("DONE at once for " + n, Rows.museum(n), attempts, 0, states);
            }
        }
    }

    private static void moves() {
        Document.says(TERMS, "a MOVE of a process is: if it is idle, and has attempts left, an attempt begins and it"
            + " makes its first step; if it is trying or leaving, a step; if it is inside, it leaves and makes a"
            + " step.");
        // Idle, trying at 1 and at 2, inside, leaving at 4, idle: of 6 states the first is the one before's last.
        LockMuseum x = Rows.museum(1, Rows.read(2, 0, 6), Rows.read(2, 0, 6), Rows.enter(), Rows.read(2, 0, 6));
        judged("an attempt", x, 1, 0, 6);
        judged("two attempts", x, 2, 0, 11);
        judged("three attempts", x, 3, 0, 16);
        // A lost one makes no move: idle, lost.
        judged("lost at once", Rows.museum(1, Rows.go(0)), 3, 2, 2);
    }

    private static void statesDifferInWords() {
        Document.says(TERMS, "(A state is the words,");
        for (int word = 0; word < 8; word++) {
            // Each writes its number: 9 states of two that are idle, have written or are done, and in 4 of them,
            // when both have written, either may have been the last.
            LockMuseum x = Rows.museum(2, Rows.write(0, word, 6));
            judged("the last writer of word " + word, x, 1, 0, 13);
        }
    }

    private static void statesDifferInWhatAndPlace() {
        Document.says(TERMS, STATE);
        // Idle, trying at 1, inside at 2, leaving at 1 and so on without end.
        LockMuseum x = Rows.museum(1, Rows.read(2, 0, 6), Rows.enter(), Rows.go(0));
        judged("trying and leaving at one place", x, 1, 2, 4);
        // Idle, trying at 40, lost at 40.
        LockMuseum y = Rows.museum(1, Rows.go(39));
        Rows.put(y, 39, Rows.read(2, 0, 6));
        judged("trying and lost at one place", y, 1, 2, 3);
        // Idle, 30 places behind a READ each, idle.
        int[][] rows = new int[30][];
        for (int i = 0; i < 30; i++) {
            rows[i] = Rows.read(2, 0, 6);
        }
        judged("30 places", Rows.museum(1, rows), 1, 0, 32);
    }

    private static void statesDifferInRegisters() {
        Document.says(TERMS, STATE);
        for (int r = 0; r < 6; r++) {
            int one = r == 3 ? 4 : 3;
            // Process 1 writes 1 and then 0 to word 0; process 0 reads it once, and is done at 4 or at 10.
            LockMuseum x = Rows.museum(2, Rows.set(one, 1), Rows.like(0, one, 5), Rows.read(r, 0, 6),
                Rows.like(r, one, 10), Rows.done(), Rows.write(one, 0, 6), Rows.write(5, 0, 6));
            if (r == 5) {
                Rows.put(x, 6, Rows.write(4, 0, 6));
            }
            // 4 states of process 1; process 0 idle in 4, with 0 in 4, with 1 in 3, and done in 4, however it came.
            judged("what register " + r + " has read", x, 1, 0, 15);
        }
    }

    private static void statesDifferInNothingElse() {
        Document.says(TERMS, STATE);
        judged("steps", Rows.museum(1, Rows.read(2, 0, 6), Rows.go(0)), 1, 2, 2);
        judged("the door", Rows.museum(1, Rows.read(2, 0, 6), Rows.door(), Rows.go(0)), 1, 2, 2);
        // Process 0 has 7 states in 3 attempts, process 1 is idle or waits past its door for good.
        LockMuseum x = Rows.museum(2, Rows.like(0, 5, 4), Rows.door(), Rows.read(2, 0, 6), Rows.go(2), Rows.enter());
        judged("overtaken", x, 3, 2, 14);
    }

    private static void orderOfStates() {
        Document.says(TERMS, "States are numbered in the order in which they are found: the first one is 0; one by"
            + " one, in that order, the moves of process 0, 1, 2 are made from each.");
        // 0; 1, 2, 3 one is inside; from 1: 4 it is done, 5 the next one is inside too.
        LockMuseum x = Rows.museum(3, Rows.enter());
        judged("no lock for three", x, 1, 1, 6);
        trailIs("no lock for three", x, 0, 1);
        // 0; 1 process 0 is lost, 2 and 3 one is inside; from 1: 4, 5 likewise; from 2: 6 done, 7 both inside.
        LockMuseum y = Rows.museum(3, Rows.like(0, 5, 0), Rows.enter());
        judged("no lock, process 0 lost", y, 1, 1, 8);
        trailIs("no lock, process 0 lost", y, 1, 2);
    }

    private static void twoInside() {
        Document.says(TERMS, "Its verdict: 1 a state is found with two inside (it ends there);");
        LockMuseum x = Rows.museum(2, Rows.enter());
        for (int attempts = 1; attempts <= 3; attempts++) {
            judged("no lock for two", x, attempts, 1, 5);
        }
        // A state from which not all come out is found earlier, but then the verdict is 1 all the same.
        LockMuseum y = Rows.museum(3, Rows.like(0, 5, 0), Rows.enter());
        Check.due("one is lost, two inside", y.judge(1), 1);
        // Only those enter that come as the third or later: both can, if each makes two attempts.
        LockMuseum z = Rows.museum(2, Rows.fetch(2, 0, 1), Rows.set(3, 1), Rows.less(3, 2, 4), Rows.done(),
            Rows.enter());
        Check.due("two inside in the second attempt alone", z.judge(1), 0);
        Check.due("two inside in the second attempt alone", z.judge(2), 1);
    }

    private static void oneInsideIsNotTwo() {
        Document.says(TERMS, "1 a state is found with two inside");
        judged("one alone", Rows.museum(1, Rows.enter()), 1, 0, 3);
        // Process 1 never enters: 3 states each.
        LockMuseum x = Rows.museum(2, Rows.like(0, 5, 3), Rows.read(2, 0, 6), Rows.done(), Rows.enter());
        judged("one of two", x, 1, 0, 9);
        Check.due("one of two: trail(-1)", x.trail(-1), 0);
    }

    /** A process that READs so often, counted by registers 2 to 4, and does what begins at 14. */
    private static int[][] counted(int reads, int first, int[]... behind) {
        int left = reads - 1;
        int[][] rows = new int[14 + behind.length][];
        int[][] front = {
            Rows.like(0, 5, first), Rows.set(2, 15 - left % 16), Rows.set(3, 15 - left / 16 % 16),
            Rows.set(4, 15 - left / 256), Rows.read(1, 7, 6), Rows.add(2, 1), Rows.like(2, 5, 8), Rows.go(4),
            Rows.add(3, 1), Rows.like(3, 5, 11), Rows.go(4), Rows.add(4, 1), Rows.like(4, 5, 14), Rows.go(4),
        };
        System.arraycopy(front, 0, rows, 0, 14);
        System.arraycopy(behind, 0, rows, 14, behind.length);
        return rows;
    }

    private static void threeThousandStates() {
        Document.says(TERMS, TOO_MANY);
        // Idle, so many READs, inside, idle.
        for (int states = 2998; states <= 3000; states++) {
            judged(states + " states", Rows.museum(1, counted(states - 3, 1, Rows.enter())), 1, 0, states);
        }
        judged("3001 states", Rows.museum(1, counted(2998, 1, Rows.enter())), 1, 3, 3000);
        judged("4000 states", Rows.museum(1, counted(3997, 1, Rows.enter())), 1, 3, 3000);
        LockMuseum lost = Rows.museum(1, counted(2997, 1, Rows.enter(), Rows.go(15)));
        judged("3000 states, the last one lost", lost, 1, 2, 3000);
        LockMuseum tooManyToTell = Rows.museum(1, counted(2998, 1, Rows.enter(), Rows.go(15)));
        judged("3001 states, the last one lost", tooManyToTell, 1, 3, 3000);
    }

    /**
     * Both make so many READs just ahead of their ENTER and just behind it; process 1 makes others ahead of those.
     * A state is known by how many moves each has made. Those of m moves in all are m + 1, but never more than
     * process 0 has states of its own (3 + ahead + behind), and are found in the order of its moves, the most first.
     */
    private static LockMuseum race(int reads, int ahead, int behind) {
        int[][] rest = new int[ahead + 1 + behind][];
        for (int i = 0; i < rest.length; i++) {
            rest[i] = i == ahead ? Rows.enter() : Rows.read(1, 7, 6);
        }
        return Rows.museum(2, counted(reads, 14, rest));
    }

    private static void twoInsideAsTheLastOnes() {
        Document.says(TERMS, TOO_MANY);
        // 1 + 2 + 998 * 3 states of up to 999 moves; then (done, 998), and (in, in).
        judged("two inside as the 2999th", race(998, 0, 0), 1, 1, 2999);
        // 1 + 2 + 3 + 748 * 4 states of up to 750 moves; then (done, 748), and (in, in).
        LockMuseum x = race(747, 1, 0);
        judged("two inside as the 3000th", x, 1, 1, 3000);
        Check.due("two inside as the 3000th: trail(-1)", x.trail(-1), 751);
        // 1 + 2 + 3 + 748 * 4 states of up to 750 moves; then (done, 748), (leaving, 749), and (in, in).
        LockMuseum y = race(749, 0, 1);
        judged("two inside as the 3001st", y, 1, 3, 3000);
        trailIs("two inside as the 3001st", y);
    }

    private static void stuck() {
        Document.says(TERMS, "otherwise 2 if from some state none can be reached in which all are idle and have no"
            + " attempts left;");
        LockMuseum x = new LockMuseum();
        x.exhibit(3, 2);
        Rows.put(x, 11, Rows.go(8));
        Check.due("TWO, each waits for the other", x.judge(1), 2);
        trailIs("TWO, each waits for the other", x);
        LockMuseum y = new LockMuseum();
        y.exhibit(1, 1);
        Rows.put(y, 6, Rows.set(2, 1));
        Check.due("SWAP that never gives back, once", y.judge(1), 0);
        Check.due("SWAP that never gives back, twice", y.judge(2), 2);
        // Idle, 0 is lost, 1 is done, both.
        LockMuseum z = Rows.museum(2, Rows.like(0, 5, 0));
        judged("process 0 is lost", z, 1, 2, 4);
        judged("process 0 is lost", z, 2, 2, 6);
        // Only one order leads to the lost one: process 0 reads what process 1 has written.
        LockMuseum one = Rows.museum(2, Rows.set(3, 1), Rows.like(0, 3, 5), Rows.read(2, 0, 6), Rows.like(2, 3, 3),
            Rows.done(), Rows.write(3, 0, 6));
        Check.due("lost in one order alone", one.judge(1), 2);
    }

    private static void notStuck() {
        Document.says(TERMS, "otherwise 0.");
        for (int n = 1; n <= 3; n++) {
            LockMuseum x = new LockMuseum();
            x.exhibit(1, n);
            Check.due("SWAP for " + n + ", whose rounds may have no end", x.judge(1), 0);
        }
        // Process 0 waits until process 1 has written: a round without end, but a way out of it.
        LockMuseum y = Rows.museum(2, Rows.set(3, 1), Rows.like(0, 3, 6), Rows.read(2, 0, 6), Rows.like(2, 3, 5),
            Rows.go(2), Rows.done(), Rows.write(3, 0, 6));
        Check.due("waiting for the other's only attempt", y.judge(1), 0);
    }

    private static void trailIsTheWayFoundFirst() {
        Document.says(TERMS, "The TRAIL is a way to the state with two inside: back from that one, by the state and"
            + " the move with which each was found first.");
        LockMuseum x = Rows.museum(2, Rows.enter());
        x.judge(1);
        trailIs("both orders lead there", x, 0, 1);
        // Each makes a READ and enters. Behind 0: (r .) (. r), (in .) (r r) (. in), (done .) (in r) ..; the state
        // (in r) is found first from (in .), and (in in) from that.
        LockMuseum y = Rows.museum(2, Rows.read(2, 0, 6), Rows.enter());
        y.judge(1);
        trailIs("a READ ahead", y, 0, 0, 1, 1);
        LockMuseum z = new LockMuseum();
        z.exhibit(3, 2);
        Rows.put(z, 6, Rows.set(5, 0));
        judged("TWO without its turn", z, 1, 1, 46);
        Check.due("its trail's length", z.trail(-1), 7);
    }

    private static void trailLeadsThere() {
        Document.says(TERMS, "The TRAIL is a way to the state with two inside:");
        LockMuseum x = new LockMuseum();
        x.exhibit(3, 2);
        Rows.put(x, 6, Rows.set(5, 0));
        x.judge(2);
        for (int i = 0; i < x.trail(-1); i++) {
            int p = x.trail(i);
            Check.due("both are inside ahead of its end", x.about(0, 0) == 2 && x.about(1, 0) == 2 ? 1 : 0, 0);
            if (x.about(p, 0) == 0) {
                x.want(p);
            } else if (x.about(p, 0) == 2) {
                x.leave(p);
            }
            x.step(p);
        }
        Check.due("process 0 at its end", x.about(0, 0), 2);
        Check.due("process 1 at its end", x.about(1, 0), 2);
    }

    private static void longTrail() {
        Document.says(TERMS, "back from that one, by the state and the move with which each was found first.");
        for (int reads : new int[] {1, 2, 17, 300}) {
            LockMuseum x = race(reads, 0, 0);
            judged("a race of " + reads, x, 1, 1, 3 * reads + 5);
            // Process 0 enters; then process 1 READs so often and enters.
            int[] due = new int[reads + 2];
            for (int i = 1; i < due.length; i++) {
                due[i] = 1;
            }
            trailIs("a race of " + reads, x, due);
        }
        LockMuseum x = race(998, 0, 0);
        x.judge(1);
        Check.due("the trail of a race of 998", x.trail(-1), 1000);
        Check.due("its first move", x.trail(0), 0);
        Check.due("its last move", x.trail(999), 1);
    }

    private static void exhibitsAsPlain() {
        Document.says(TERMS, "The JUDGE goes through all STATES");
        for (int method = 1; method <= 5; method++) {
            for (int n = method == 3 ? 2 : 1; n <= (method == 3 ? 2 : 3); n++) {
                for (int attempts = 1; attempts <= 3; attempts++) {
                    Pair pair = new Pair("exhibit " + method + " for " + n);
                    pair.exhibit(method, n);
                    pair.judge(attempts);
                    pair.compare();
                }
            }
        }
    }

    private static void exhibitsWithOneChangeAsPlain() {
        Document.says(TERMS, "Its verdict: 1 a state is found with two inside (it ends there); 3 more than 3000 states"
            + " would be found (it ends there, ahead of 1); otherwise 2 if from some state none can be reached in"
            + " which all are idle and have no attempts left; otherwise 0.");
        int[] verdicts = new int[4];
        for (int method = 1; method <= 5; method++) {
            for (int i = 0; i < ExhibitCases.length(method); i++) {
                Pair pair = new Pair("exhibit " + method + " without instruction " + i);
                pair.exhibit(method, 2);
                pair.change(i, Rows.set(5, 0));
                pair.judge(1);
                pair.compare();
                verdicts[pair.plain.judge(1)]++;
            }
        }
        for (int verdict = 0; verdict < 3; verdict++) {
            Check.due("verdict " + verdict + " is among them", verdicts[verdict] > 0 ? 1 : 0, 1);
        }
    }

    private static void judgeChangesNothing() {
        Document.says(TERMS, "The judge changes nothing of the words and processes.");
        for (int times = 0; times < 12; times++) {
            LockMuseum x = new LockMuseum();
            LockMuseum y = new LockMuseum();
            x.exhibit(2, 3);
            y.exhibit(2, 3);
            x.judge(2);
            x.run(21, times);
            y.run(21, times);
            x.judge(1);
            x.judge(2);
            y.judge(2);
            Check.same("all that is told", Check.picture(x, 3), Check.picture(y, 3));
            Check.due("run(3, 40)", x.run(3, 40), y.run(3, 40));
            Check.same("all that is told behind a run", Check.picture(x, 3), Check.picture(y, 3));
        }
        LockMuseum x = Rows.museum(2, Rows.door(), Rows.fetch(2, 0, 15), Rows.enter());
        Rows.begin(x, 0, 1);
        Rows.begin(x, 1, 2);
        Check.due("two can be inside", x.judge(1), 1);
        Check.due("words", x.word(0), 14);
        Check.due("a place", x.about(0, 1), 2);
        Check.due("a door", x.about(0, 2), 1);
        Check.due("overtaken", x.about(0, 3), 1);
        Check.due("steps", x.about(1, 4), 2);
    }
}
