/** Terms: what a process is, what a step is, and who is overtaken. */
final class StepCases {
    private static final String TERMS = "Terms";
    private static final Class<IllegalStateException> STATE = IllegalStateException.class;
    private static final String LOST = "A process that would do more than 60 free instructions in a step, or come to"
        + " an instruction that there isn't (40), is lost; its place stays there.";
    private static final String OVERTAKEN = "OVERTAKEN: when a process enters, each other one that is trying and past"
        + " its door has one more; a process has 0 when it passes its door.";

    private StepCases() {
    }

    static void all() {
        Check.each(StepCases::whatAProcessIs, StepCases::attemptBegins, StepCases::nextAttemptBeginsAnew,
            StepCases::sharedIsTheLastOne, StepCases::enterIsTheLastOne, StepCases::doneIsTheLastOne,
            StepCases::enterWhileLeaving, StepCases::sixtyFree, StepCases::sixtyFreeAreCountedInEachStep,
            StepCases::enterWhileLeavingIsOneOfTheSixty, StepCases::roundsWithoutEnd, StepCases::freeInstructionAt39,
            StepCases::sharedInstructionAt39, StepCases::enterAt39, StepCases::lostStaysLost, StepCases::leaves,
            StepCases::overtaken, StepCases::overtakenAlone, StepCases::doorPassedAgain, StepCases::doorWhileLeaving,
            StepCases::lostIsNotOvertaken);
    }

    private static void whatAProcessIs() {
        Document.says(TERMS, "A process is IDLE, TRYING, INSIDE, LEAVING or LOST (0 .. 4).");
        LockMuseum x = Rows.museum(1, Rows.enter(), Rows.go(1));
        Check.due("idle", x.about(0, 0), 0);
        x.want(0);
        Check.due("trying", x.about(0, 0), 1);
        Check.due("inside", x.step(0), 2);
        x.leave(0);
        Check.due("leaving", x.about(0, 0), 3);
        Check.due("lost", x.step(0), 4);
    }

    private static void attemptBegins() {
        Document.says(TERMS, "An ATTEMPT begins with instruction 0; register 0 is the process's number then, register"
            + " 1 how many processes there are, the others 0.");
        for (int n = 1; n <= 3; n++) {
            LockMuseum x = Rows.museum(n, Rows.enter());
            for (int p = 0; p < n; p++) {
                x.want(p);
                Check.due("its place", x.about(p, 1), 0);
                Check.due("register 0 of " + p, x.register(p, 0), p);
                Check.due("register 1 among " + n, x.register(p, 1), n);
                for (int r = 2; r < 6; r++) {
                    Check.due("register " + r, x.register(p, r), 0);
                }
                Check.due("instruction 0 is done", x.step(p), 2);
            }
        }
    }

    private static void nextAttemptBeginsAnew() {
        Document.says(TERMS, "An ATTEMPT begins with instruction 0;");
        LockMuseum x = Rows.museum(3, Rows.set(0, 15), Rows.set(1, 15), Rows.set(5, 15), Rows.door(), Rows.enter(),
            Rows.done());
        Rows.begin(x, 2, 1);
        x.leave(2);
        Check.due("the first one is over", x.step(2), 0);
        x.want(2);
        Check.same("the next one", Check.picture(x, 3),
            "0 0 0 0 0 0 0 0 | 0 0 0 0 0 0 0 0 0 0 0 | 0 0 0 0 0 0 0 0 0 0 0 | 2 3 0 0 0 0 1 0 0 0 0 | 0 :");
    }

    private static void sharedIsTheLastOne() {
        Document.says(TERMS, "A STEP of one that is trying or leaving: instructions are done until one was shared"
            + " (that is the last one),");
        for (int kind = 7; kind <= 11; kind++) {
            int[] shared = {kind, 2, 0, 5};
            LockMuseum x = Rows.museum(1, shared, shared, Rows.add(3, 1), shared, Rows.enter(), shared, Rows.add(3, 1),
                shared);
            int[] places = {1, 2, 4};
            x.want(0);
            for (int i = 0; i < places.length; i++) {
                Check.due("kind " + kind + ": trying", x.step(0), 1);
                Check.due("kind " + kind + ": place", x.about(0, 1), places[i]);
                Check.due("kind " + kind + ": what is behind it isn't done", x.register(0, 3), i == 2 ? 1 : 0);
            }
            x.step(0);
            x.leave(0);
            Check.due("kind " + kind + ": leaving", x.step(0), 3);
            Check.due("kind " + kind + ": place of one that leaves", x.about(0, 1), 6);
            Check.due("kind " + kind + ": leaving still", x.step(0), 3);
            Check.due("kind " + kind + ": next place of one that leaves", x.about(0, 1), 8);
        }
    }

    private static void enterIsTheLastOne() {
        Document.says(TERMS, "or an ENTER (it is inside; its place is behind that, and it is past its door no more)");
        LockMuseum x = Rows.museum(1, Rows.door(), Rows.read(2, 0, 6), Rows.enter(), Rows.set(3, 9));
        Rows.begin(x, 0, 1);
        Check.due("past its door", x.about(0, 2), 1);
        Check.due("inside", x.step(0), 2);
        Check.due("its place", x.about(0, 1), 3);
        Check.due("past its door no more", x.about(0, 2), 0);
        Check.due("what is behind it isn't done", x.register(0, 3), 0);
    }

    private static void doneIsTheLastOne() {
        Document.says(TERMS, "or a DONE (it is idle).");
        LockMuseum x = Rows.museum(1, Rows.done(), Rows.enter());
        x.want(0);
        Check.due("DONE at once, while trying", x.step(0), 0);
        Check.due("DONE at once: steps", x.about(0, 4), 1);
        LockMuseum y = Rows.museum(1, Rows.enter(), Rows.done(), Rows.fetch(2, 0, 1));
        Rows.begin(y, 0, 1);
        y.leave(0);
        Check.due("DONE while leaving", y.step(0), 0);
        Check.due("what is behind it isn't done", y.word(0), 0);
    }

    private static void enterWhileLeaving() {
        Document.says(TERMS, "An ENTER while leaving is free and does nothing.");
        LockMuseum x = Rows.museum(2, Rows.like(0, 5, 4), Rows.door(), Rows.read(2, 0, 6), Rows.done(), Rows.enter(),
            Rows.door(), Rows.enter(), Rows.add(2, 5), Rows.enter(), Rows.write(2, 0, 6));
        Rows.begin(x, 1, 1);
        Rows.begin(x, 0, 1);
        Check.due("the other is overtaken by the first ENTER", x.about(1, 3), 1);
        x.leave(0);
        Check.due("two more ENTERs, then a WRITE", x.step(0), 3);
        Check.due("its place", x.about(0, 1), 10);
        Check.due("the WRITE was done", x.word(0), 5);
        Check.due("it is past its door as ahead of the ENTERs", x.about(0, 2), 1);
        Check.due("nobody is overtaken by them", x.about(1, 3), 1);
    }

    /** So many (46 or more) free instructions, the last of which sets register 5 at 38; at 39 stands the end. */
    private static LockMuseum straight(int free, int[] end) {
        LockMuseum x = Rows.museum(1);
        for (int i = 0; i < 38; i++) {
            Rows.put(x, i, Rows.set(2, 1));
        }
        // Instructions 0 .. 21 are gone through twice: 44. The GO at 22 and the SET at 38 make 46.
        Rows.put(x, 0, Rows.add(3, 1));
        Rows.put(x, 1, Rows.set(4, 2));
        Rows.put(x, 21, Rows.less(3, 4, 0));
        Rows.put(x, 22, Rows.go(38 - (free - 46)));
        Rows.put(x, 38, Rows.set(5, 7));
        Rows.put(x, 39, end);
        x.want(0);
        return x;
    }

    private static void sixtyFree() {
        Document.says(TERMS, LOST);
        int[][] ends = {Rows.fetch(4, 0, 1), Rows.enter(), Rows.done()};
        int[] due = {1, 2, 0};
        for (int k = 0; k < ends.length; k++) {
            String name = " free ones, then kind " + ends[k][0];
            Check.due("59" + name, straight(59, ends[k]).step(0), due[k]);
            Check.due("60" + name, straight(60, ends[k]).step(0), due[k]);
            LockMuseum x = straight(61, ends[k]);
            Check.due("61" + name, x.step(0), 4);
            Check.due("the place of the 61st", x.about(0, 1), 38);
            Check.due("the 61st isn't done", x.register(0, 5), 0);
            Check.due("nothing behind it is done", x.word(0), 0);
        }
    }

    /** Steps of 60 free instructions and a FETCH at 32, if it goes back to 1; of 61 from the second on, if to 0. */
    private static LockMuseum sixtyInEach(int back) {
        LockMuseum x = Rows.museum(1, Rows.set(4, 2), Rows.set(3, 0));
        // Instructions 2 .. 29 are gone through twice: 56.
        for (int i = 2; i < 32; i++) {
            Rows.put(x, i, Rows.door());
        }
        Rows.put(x, 28, Rows.add(3, 1));
        Rows.put(x, 29, Rows.less(3, 4, 2));
        Rows.put(x, 32, Rows.fetch(5, 0, 1));
        Rows.put(x, 33, Rows.go(back));
        x.want(0);
        return x;
    }

    private static void sixtyFreeAreCountedInEachStep() {
        Document.says(TERMS, "A process that would do more than 60 free instructions in a step");
        LockMuseum x = sixtyInEach(1);
        for (int i = 1; i <= 4; i++) {
            Check.due("step " + i + " with 60", x.step(0), 1);
            Check.due("the FETCH of step " + i, x.word(0), i);
        }
        LockMuseum y = sixtyInEach(0);
        Check.due("the first step with 60", y.step(0), 1);
        Check.due("the second step with 61", y.step(0), 4);
        Check.due("the place of the 61st", y.about(0, 1), 31);
        Check.due("the FETCH of the first step alone", y.word(0), 1);
    }

    private static void enterWhileLeavingIsOneOfTheSixty() {
        Document.says(TERMS, "An ENTER while leaving is free and does nothing.");
        for (int more = 0; more <= 1; more++) {
            LockMuseum x = Rows.museum(1, Rows.enter(), Rows.set(4, 2));
            for (int i = 2; i < 31 + more; i++) {
                Rows.put(x, i, Rows.enter());
            }
            // Instructions 1 .. 30 are gone through twice, which makes 60; one ENTER more may stand behind them.
            Rows.put(x, 29, Rows.add(3, 1));
            Rows.put(x, 30, Rows.less(3, 4, 1));
            Rows.begin(x, 0, 1);
            x.leave(0);
            Check.due(60 + more + " free ones, most of them ENTER, then DONE", x.step(0), more == 0 ? 0 : 4);
            Check.due(60 + more + " free ones: place", x.about(0, 1), more == 0 ? 0 : 31);
        }
    }

    private static void roundsWithoutEnd() {
        Document.says(TERMS, LOST);
        for (int length = 1; length <= 7; length++) {
            LockMuseum x = Rows.museum(1);
            for (int i = 0; i < length - 1; i++) {
                Rows.put(x, i, Rows.add(2, 1));
            }
            Rows.put(x, length - 1, Rows.go(0));
            x.want(0);
            Check.due("a round of " + length, x.step(0), 4);
            Check.due("a round of " + length + ": place behind 60", x.about(0, 1), 60 % length);
            int adds = 60 / length * (length - 1) + 60 % length;
            Check.due("a round of " + length + ": ADDs among 60", x.register(0, 2), adds % 16);
            Check.due("a round of " + length + ": it has made that step", x.about(0, 4), 1);
        }
    }

    private static LockMuseum with39(int[] last) {
        LockMuseum x = Rows.museum(1, Rows.go(39));
        Rows.put(x, 39, last);
        x.want(0);
        return x;
    }

    private static void freeInstructionAt39() {
        Document.says(TERMS, LOST);
        LockMuseum x = with39(Rows.set(2, 6));
        Check.due("a free instruction at 39", x.step(0), 4);
        Check.due("its place", x.about(0, 1), 40);
        Check.due("it was done", x.register(0, 2), 6);
        LockMuseum y = with39(Rows.like(0, 1, 5));
        Check.due("a jump at 39 that isn't made", y.step(0), 4);
        Check.due("its place", y.about(0, 1), 40);
        LockMuseum z = with39(Rows.like(0, 5, 5));
        Check.due("a jump at 39 that is made, to a DONE", z.step(0), 0);
    }

    private static void sharedInstructionAt39() {
        Document.says(TERMS, LOST);
        LockMuseum x = with39(Rows.fetch(2, 0, 1));
        Check.due("a shared instruction at 39 is the step's last one", x.step(0), 1);
        Check.due("its place", x.about(0, 1), 40);
        Check.due("the step that comes to 40", x.step(0), 4);
        Check.due("its place stays", x.about(0, 1), 40);
        Check.due("nothing more is done", x.word(0), 1);
    }

    private static void enterAt39() {
        Document.says(TERMS, LOST);
        LockMuseum x = with39(Rows.enter());
        Check.due("an ENTER at 39", x.step(0), 2);
        Check.due("its place", x.about(0, 1), 40);
        x.leave(0);
        Check.due("it leaves", x.about(0, 0), 3);
        Check.due("the step that comes to 40", x.step(0), 4);
        Check.due("its place stays", x.about(0, 1), 40);
    }

    private static void lostStaysLost() {
        Document.says(TERMS, "is lost; its place stays there.");
        LockMuseum x = Rows.museum(2, Rows.set(2, 5), Rows.door(), Rows.go(2));
        Rows.begin(x, 0, 1);
        x.mend();
        Check.refused("a step", STATE, () -> x.step(0));
        Check.refused("an attempt", STATE, () -> x.want(0));
        Check.refused("leaving", STATE, () -> x.leave(0));
        x.run(4, 30);
        Check.due("lost", x.about(0, 0), 4);
        Check.due("its place", x.about(0, 1), 2);
        Check.due("its register 2", x.register(0, 2), 5);
    }

    private static void leaves() {
        Document.says(TERMS, "One that is inside LEAVES: it is leaving then, and goes on behind its ENTER.");
        LockMuseum x = Rows.museum(1, Rows.go(37));
        Rows.put(x, 37, Rows.enter());
        Rows.put(x, 38, Rows.fetch(2, 0, 1));
        Rows.begin(x, 0, 1);
        x.leave(0);
        Check.due("leaving", x.about(0, 0), 3);
        Check.due("its place", x.about(0, 1), 38);
        Check.due("its step", x.step(0), 3);
        Check.due("what it did", x.word(0), 1);
        Check.due("its place then", x.about(0, 1), 39);
    }

    /** One READ, the door, one READ more, and the entry. */
    private static LockMuseum open(int processes) {
        return Rows.museum(processes, Rows.read(2, 0, 6), Rows.door(), Rows.read(2, 0, 6), Rows.enter());
    }

    private static void overtaken() {
        Document.says(TERMS, OVERTAKEN);
        LockMuseum x = open(3);
        Rows.begin(x, 0, 2);
        Rows.begin(x, 1, 2);
        Rows.begin(x, 2, 1);
        x.step(0);
        Check.due("the one that enters", x.about(0, 3), 0);
        Check.due("one past its door", x.about(1, 3), 1);
        Check.due("one ahead of its door", x.about(2, 3), 0);
        x.leave(0);
        x.step(0);
        Rows.begin(x, 0, 3);
        Check.due("the same one enters again", x.about(1, 3), 2);
        x.step(2);
        Check.due("0 when it passes its door", x.about(2, 3), 0);
        x.step(1);
        Check.due("one that enters keeps its count", x.about(1, 3), 2);
        Check.due("one past its door by now", x.about(2, 3), 1);
        Check.due("one inside isn't overtaken", x.about(0, 3), 0);
        x.step(2);
        Check.due("one inside isn't overtaken, whatever it had", x.about(1, 3), 2);
        Check.due("nor the one that enters last", x.about(2, 3), 1);
    }

    private static void overtakenAlone() {
        Document.says(TERMS, OVERTAKEN);
        LockMuseum x = open(1);
        Rows.begin(x, 0, 3);
        Check.due("nobody overtakes oneself", x.about(0, 3), 0);
        LockMuseum y = open(2);
        y.want(1);
        Rows.begin(y, 0, 3);
        Check.due("one that has made no step", y.about(1, 3), 0);
        y.leave(0);
        y.step(0);
        Check.due("idle", y.about(0, 0), 0);
        Rows.advance(y, 1, 3);
        Check.due("an idle one isn't overtaken", y.about(0, 3), 0);
    }

    private static void doorPassedAgain() {
        Document.says(TERMS, "a process has 0 when it passes its door.");
        LockMuseum x = Rows.museum(2, Rows.door(), Rows.read(2, 0, 6), Rows.like(0, 5, 4), Rows.go(0), Rows.enter());
        Rows.begin(x, 1, 1);
        Rows.begin(x, 0, 2);
        Check.due("overtaken once", x.about(1, 3), 1);
        x.step(1);
        Check.due("0 when it passes a door again", x.about(1, 3), 0);
        Check.due("it is past it", x.about(1, 2), 1);
    }

    private static void doorWhileLeaving() {
        Document.says(TERMS, "each other one that is trying and past its door has one more;");
        LockMuseum x = Rows.museum(2, Rows.enter(), Rows.door(), Rows.read(2, 0, 6));
        Rows.begin(x, 0, 1);
        x.leave(0);
        x.step(0);
        Check.due("past a door while leaving", x.about(0, 2), 1);
        Rows.begin(x, 1, 1);
        Check.due("one that leaves isn't overtaken", x.about(0, 3), 0);
    }

    private static void lostIsNotOvertaken() {
        Document.says(TERMS, "each other one that is trying and past its door has one more;");
        LockMuseum x = Rows.museum(2, Rows.like(0, 5, 3), Rows.door(), Rows.go(2), Rows.enter());
        Rows.begin(x, 1, 1);
        Check.due("lost", x.about(1, 0), 4);
        Check.due("past its door", x.about(1, 2), 1);
        Rows.begin(x, 0, 1);
        Check.due("a lost one isn't overtaken", x.about(1, 3), 0);
    }
}
