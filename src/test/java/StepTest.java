/** Promises 5 to 7: want, step and leave, and the terms that say what a step is. */
public final class StepTest {
    private static final Class<IllegalArgumentException> ARGUMENT = IllegalArgumentException.class;
    private static final Class<IllegalStateException> STATE = IllegalStateException.class;

    public static void main(String[] args) {
        wantBegins();
        wantRefuses();
        stepRefuses();
        leaveLeaves();
        leaveRefuses();
        freeInstructions();
        jumps();
        readWriteSwap();
        wordsGoRound();
        registerThatIsBoth();
        fetch();
        tries();
        sharedEndsTheStep();
        enterWhileLeaving();
        doneWhileTrying();
        sixtyFree();
        enterWhileLeavingCounts();
        instructionForty();
        lostStays();
        doorAndOvertaking();
        doorAgain();
        doorWhileLeaving();
        lostIsNotOvertaken();
        stepsAndMeterStay();
        Check.finish();
    }

    /** A museum for so many, with these instructions from 0 on. */
    private static LockMuseum museum(int processes, int[]... rows) {
        LockMuseum x = new LockMuseum();
        x.exhibit(1, processes);
        for (int i = 0; i < 40; i++) {
            x.change(i, 13, 0, 0, 0);
        }
        for (int i = 0; i < rows.length; i++) {
            x.change(i, rows[i][0], rows[i][1], rows[i][2], rows[i][3]);
        }
        return x;
    }

    private static int[] row(int kind, int a, int b, int c) {
        return new int[] {kind, a, b, c};
    }

    // Promise 5
    private static void wantBegins() {
        for (int n = 1; n <= 3; n++) {
            LockMuseum x = new LockMuseum();
            x.exhibit(2, n);
            for (int p = 0; p < n; p++) {
                x.want(p);
                Check.due("want: what", x.about(p, 0), 1);
                Check.due("want: place", x.about(p, 1), 0);
                Check.due("want: steps", x.about(p, 4), 0);
                Check.due("want: register 0", x.register(p, 0), p);
                Check.due("want: register 1", x.register(p, 1), n);
                for (int r = 2; r < 6; r++) {
                    Check.due("want: register " + r, x.register(p, r), 0);
                }
            }
            Check.due("want makes no step", x.word(0), 0);
        }
    }

    // Promise 5
    private static void wantRefuses() {
        LockMuseum x = new LockMuseum();
        for (int p : new int[] {-1, 2, 3, Integer.MAX_VALUE, Integer.MIN_VALUE}) {
            Check.refused("want(" + p + ")", ARGUMENT, () -> x.want(p));
        }
        x.want(0);
        wantRefused(x, "trying");
        x.step(0);
        x.step(0);
        wantRefused(x, "inside");
        x.leave(0);
        x.step(0);
        wantRefused(x, "leaving");
        x.step(0);
        x.change(0, 5, 0, 0, 0);
        x.want(0);
        x.step(0);
        wantRefused(x, "lost");
        Check.refused("want(2) while others are not idle", ARGUMENT, () -> x.want(2));
    }

    private static void wantRefused(LockMuseum x, String when) {
        String before = Check.picture(x, 2);
        Check.refused("want(0) while " + when, STATE, () -> x.want(0));
        Check.same("a refused want while " + when, Check.picture(x, 2), before);
    }

    // Promise 6
    private static void stepRefuses() {
        LockMuseum x = new LockMuseum();
        for (int p : new int[] {-1, 2, 3, Integer.MAX_VALUE, Integer.MIN_VALUE}) {
            Check.refused("step(" + p + ")", ARGUMENT, () -> x.step(p));
        }
        stepRefused(x, "idle");
        x.want(0);
        x.step(0);
        x.step(0);
        stepRefused(x, "inside");
        x.leave(0);
        x.step(0);
        x.step(0);
        x.change(0, 5, 0, 0, 0);
        x.want(0);
        x.step(0);
        stepRefused(x, "lost");
    }

    private static void stepRefused(LockMuseum x, String when) {
        String before = Check.picture(x, 2);
        Check.refused("step(0) while " + when, STATE, () -> x.step(0));
        Check.same("a refused step while " + when, Check.picture(x, 2), before);
    }

    // Promise 7
    private static void leaveLeaves() {
        LockMuseum x = new LockMuseum();
        x.want(1);
        x.step(1);
        x.step(1);
        x.leave(1);
        Check.due("leave: what", x.about(1, 0), 3);
        Check.due("leave: place", x.about(1, 1), 6);
        Check.due("leave makes no step", x.about(1, 4), 2);
        Check.due("leave: word(0)", x.word(0), 1);
    }

    // Promise 7
    private static void leaveRefuses() {
        LockMuseum x = new LockMuseum();
        for (int p : new int[] {-1, 2, 3, Integer.MAX_VALUE, Integer.MIN_VALUE}) {
            Check.refused("leave(" + p + ")", ARGUMENT, () -> x.leave(p));
        }
        leaveRefused(x, "idle");
        x.want(0);
        leaveRefused(x, "trying");
        x.step(0);
        x.step(0);
        x.leave(0);
        leaveRefused(x, "leaving");
        x.change(6, 5, 0, 0, 6);
        x.step(0);
        leaveRefused(x, "lost");
    }

    private static void leaveRefused(LockMuseum x, String when) {
        String before = Check.picture(x, 2);
        Check.refused("leave(0) while " + when, STATE, () -> x.leave(0));
        Check.same("a refused leave while " + when, Check.picture(x, 2), before);
    }

    // Promise 6: SET, ADD, COPY
    private static void freeInstructions() {
        LockMuseum x = museum(3, row(0, 2, 15, 0), row(1, 2, 3, 0), row(2, 5, 2, 0), row(1, 0, 15, 0),
            row(2, 3, 1, 0), row(1, 4, 15, 0), row(1, 4, 15, 0), row(12, 0, 0, 0));
        x.want(2);
        Check.due("free instructions, then ENTER", x.step(2), 2);
        int[] due = {1, 3, 2, 3, 14, 2};
        for (int r = 0; r < 6; r++) {
            Check.due("free: register " + r, x.register(2, r), due[r]);
        }
        Check.due("the place behind ENTER", x.about(2, 1), 8);
        Check.due("one step", x.about(2, 4), 1);
    }

    // Promise 6: LIKE, LESS, GO
    private static void jumps() {
        jump("LIKE alike", row(3, 2, 3, 9), 4, 4, 9);
        jump("LIKE unlike", row(3, 2, 3, 9), 4, 5, 3);
        jump("LESS below", row(4, 2, 3, 9), 4, 5, 9);
        jump("LESS alike", row(4, 2, 3, 9), 5, 5, 3);
        jump("LESS above", row(4, 2, 3, 9), 6, 5, 3);
        jump("LESS 0 and 15", row(4, 2, 3, 0), 15, 0, 3);
        jump("GO", row(5, 0, 0, 20), 1, 2, 20);
    }

    private static void jump(String name, int[] jump, int two, int three, int due) {
        LockMuseum x = museum(1, row(0, 2, two, 0), row(0, 3, three, 0), jump);
        for (int i = 3; i < 40; i++) {
            x.change(i, 12, 0, 0, 0);
        }
        x.want(0);
        Check.due(name, x.step(0), 2);
        Check.due(name + ": place", x.about(0, 1), due + 1);
    }

    // Promise 6: READ, WRITE, SWAP
    private static void readWriteSwap() {
        LockMuseum x = museum(2, row(0, 2, 9, 0), row(8, 2, 3, 6), row(7, 4, 3, 6), row(0, 3, 2, 0),
            row(0, 2, 12, 0), row(9, 2, 1, 3), row(8, 3, 5, 3), row(7, 0, 5, 3));
        x.want(0);
        Check.due("WRITE", x.step(0), 1);
        Check.due("WRITE: word(3)", x.word(3), 9);
        Check.due("WRITE: register 2", x.register(0, 2), 9);
        x.step(0);
        Check.due("READ: register 4", x.register(0, 4), 9);
        Check.due("READ: word(3)", x.word(3), 9);
        x.step(0);
        Check.due("SWAP: register 2", x.register(0, 2), 9);
        Check.due("SWAP: word(3)", x.word(3), 12);
        x.step(0);
        Check.due("WRITE with register c: word(7)", x.word(7), 2);
        x.step(0);
        Check.due("READ with register c: register 0", x.register(0, 0), 2);
        Check.due("DONE", x.step(0), 0);
    }

    // Promise 6: the word's number is taken mod 8
    private static void wordsGoRound() {
        LockMuseum x = museum(1, row(0, 2, 15, 0), row(0, 3, 6, 0), row(8, 3, 7, 2), row(8, 2, 7, 3),
            row(9, 4, 7, 2), row(7, 5, 7, 3));
        x.want(0);
        x.step(0);
        Check.due("word (7 + 15) mod 8", x.word(6), 6);
        x.step(0);
        Check.due("word (7 + 6) mod 8", x.word(5), 15);
        x.step(0);
        Check.due("SWAP round: register 4", x.register(0, 4), 6);
        Check.due("SWAP round: word(6)", x.word(6), 0);
        x.step(0);
        Check.due("READ round: register 5", x.register(0, 5), 15);
    }

    // Promise 6: register c may be register a
    private static void registerThatIsBoth() {
        LockMuseum x = museum(1, row(0, 2, 3, 0), row(9, 2, 1, 2), row(0, 2, 4, 0), row(7, 2, 0, 2),
            row(0, 3, 0, 0), row(11, 3, 0, 3), row(0, 3, 3, 0), row(11, 3, 4, 3));
        x.want(0);
        x.step(0);
        Check.due("SWAP 2 1 2: word(4)", x.word(4), 3);
        Check.due("SWAP 2 1 2: register 2", x.register(0, 2), 0);
        x.step(0);
        Check.due("READ 2 0 2: register 2", x.register(0, 2), 3);
        x.step(0);
        Check.due("TRY 3 0 3: register 3", x.register(0, 3), 1);
        Check.due("TRY 3 0 3: the word becomes what register 3 was", x.word(0), 0);
        x.step(0);
        Check.due("TRY 3 4 3: register 3", x.register(0, 3), 1);
        Check.due("TRY 3 4 3: the word becomes what register 3 was", x.word(4), 3);
    }

    // Promise 6: FETCH
    private static void fetch() {
        LockMuseum x = museum(1, row(10, 2, 7, 15), row(10, 3, 7, 3), row(10, 4, 7, 0), row(10, 0, 0, 1));
        x.want(0);
        x.step(0);
        Check.due("FETCH: register 2", x.register(0, 2), 0);
        Check.due("FETCH: word(7)", x.word(7), 15);
        x.step(0);
        Check.due("FETCH: register 3", x.register(0, 3), 15);
        Check.due("FETCH: the sum goes round", x.word(7), 2);
        x.step(0);
        Check.due("FETCH of 0: register 4", x.register(0, 4), 2);
        Check.due("FETCH of 0: word(7)", x.word(7), 2);
        x.step(0);
        Check.due("FETCH: word(0)", x.word(0), 1);
    }

    // Promise 6: TRY
    private static void tries() {
        LockMuseum x = museum(1, row(0, 3, 9, 0), row(11, 2, 5, 3), row(11, 4, 5, 0), row(0, 2, 9, 0),
            row(11, 2, 5, 1));
        x.want(0);
        x.step(0);
        Check.due("TRY that fits: register 2", x.register(0, 2), 1);
        Check.due("TRY that fits: word(5)", x.word(5), 9);
        x.step(0);
        Check.due("TRY that doesn't fit: register 4", x.register(0, 4), 0);
        Check.due("TRY that doesn't fit: word(5)", x.word(5), 9);
        x.step(0);
        Check.due("TRY of 9: register 2", x.register(0, 2), 1);
        Check.due("TRY of 9: word(5)", x.word(5), 1);
    }

    // Promise 6: of shared instructions one is done in a step
    private static void sharedEndsTheStep() {
        for (int kind = 7; kind <= 11; kind++) {
            LockMuseum x = museum(1, row(0, 2, 1, 0), row(kind, 2, 0, 5), row(1, 3, 1, 0), row(kind, 4, 1, 5));
            x.want(0);
            Check.due("kind " + kind + ": what", x.step(0), 1);
            Check.due("kind " + kind + ": place", x.about(0, 1), 2);
            Check.due("kind " + kind + ": what is behind it isn't done", x.register(0, 3), 0);
            x.step(0);
            Check.due("kind " + kind + ": second place", x.about(0, 1), 4);
            Check.due("kind " + kind + ": two steps", x.about(0, 4), 2);
        }
    }

    // Promise 6
    private static void enterWhileLeaving() {
        LockMuseum x = museum(1, row(12, 0, 0, 0), row(12, 0, 0, 0), row(1, 2, 5, 0), row(12, 0, 0, 0),
            row(8, 2, 0, 6));
        x.want(0);
        Check.due("ENTER", x.step(0), 2);
        Check.due("ENTER: place", x.about(0, 1), 1);
        x.leave(0);
        Check.due("ENTER while leaving", x.step(0), 3);
        Check.due("ENTER while leaving: place", x.about(0, 1), 5);
        Check.due("ENTER while leaving: word(0)", x.word(0), 5);
    }

    // Promise 6
    private static void doneWhileTrying() {
        LockMuseum x = museum(2, row(0, 2, 5, 0), row(6, 0, 0, 0), row(13, 0, 0, 0));
        x.want(1);
        Check.due("DONE while trying", x.step(1), 0);
        for (int r = 0; r < 6; r++) {
            Check.due("DONE: register " + r, x.register(1, r), 0);
        }
        Check.due("DONE: place", x.about(1, 1), 0);
        Check.due("DONE: past its door", x.about(1, 2), 0);
        Check.due("DONE: steps", x.about(1, 4), 1);
    }

    // Promise 6: 60 free instructions are fine, of whatever kind the one behind them is, unless it is free
    private static void sixtyFree() {
        int[][] ends = {row(8, 2, 0, 6), row(12, 0, 0, 0), row(13, 0, 0, 0)};
        int[] due = {1, 2, 0};
        for (int k = 0; k < ends.length; k++) {
            LockMuseum x = straight(60, ends[k]);
            x.want(0);
            Check.due("60 free ones, then kind " + ends[k][0], x.step(0), due[k]);
            x = straight(61, ends[k]);
            x.want(0);
            Check.due("61 free ones, then kind " + ends[k][0], x.step(0), 4);
            Check.due("the 61st isn't done: place", x.about(0, 1), 38);
            Check.due("the 61st isn't done: register 5", x.register(0, 5), 0);
        }
        LockMuseum x = museum(1, row(5, 0, 0, 0));
        x.want(0);
        Check.due("a round without end", x.step(0), 4);
        Check.due("a lost one has made that step", x.about(0, 4), 1);
    }

    /** So many (60 or 61) free instructions, the last of which sets register 5 and stands at 38; at 39 the end. */
    private static LockMuseum straight(int free, int[] end) {
        LockMuseum x = museum(1);
        for (int i = 0; i < 38; i++) {
            x.change(i, 0, 2, 1, 0);
        }
        // Instructions 0 .. 21 are gone through twice, as register 3 counts the rounds up to register 4.
        x.change(0, 1, 3, 1, 0);
        x.change(1, 0, 4, 2, 0);
        x.change(21, 4, 3, 4, 0);
        // Those are 44; with the GO and the one at 38, so many are lacking in between.
        int lacking = free - 44 - 2;
        x.change(22, 5, 0, 0, 38 - lacking);
        x.change(38, 0, 5, 7, 0);
        x.change(39, end[0], end[1], end[2], end[3]);
        return x;
    }

    // Promise 6: an ENTER while leaving is one of the free ones
    private static void enterWhileLeavingCounts() {
        LockMuseum x = museum(1, row(12, 0, 0, 0), row(12, 0, 0, 0), row(5, 0, 0, 1));
        x.want(0);
        x.step(0);
        x.leave(0);
        Check.due("ENTER and GO without end", x.step(0), 4);
        Check.due("place behind 60 of them", x.about(0, 1), 1);
        for (int many = 1; many <= 2; many++) {
            LockMuseum y = museum(1, row(12, 0, 0, 0), row(0, 4, 2, 0));
            for (int i = 2; i < 31; i++) {
                y.change(i, 12, 0, 0, 0);
            }
            y.change(29, 1, 3, 1, 0);
            y.change(30, 4, 3, 4, many);
            y.want(0);
            y.step(0);
            y.leave(0);
            // From 1: rounds of 30 by the SET at 1, of 29 without it: 30 + 30 or 30 + 29, and DONE behind.
            Check.due("60 free ones with ENTERs, back to " + many, y.step(0), 0);
        }
        LockMuseum z = museum(1, row(12, 0, 0, 0), row(0, 4, 2, 0));
        for (int i = 2; i < 32; i++) {
            z.change(i, 12, 0, 0, 0);
        }
        z.change(29, 1, 3, 1, 0);
        z.change(30, 4, 3, 4, 1);
        z.want(0);
        z.step(0);
        z.leave(0);
        Check.due("an ENTER as the 61st free one", z.step(0), 4);
        Check.due("an ENTER as the 61st free one: place", z.about(0, 1), 31);
    }

    // Promise 6: there is no instruction 40
    private static void instructionForty() {
        LockMuseum x = museum(1, row(5, 0, 0, 39));
        x.change(39, 0, 2, 6, 0);
        x.want(0);
        Check.due("a free instruction at 39", x.step(0), 4);
        Check.due("a free instruction at 39: place", x.about(0, 1), 40);
        Check.due("a free instruction at 39 is done", x.register(0, 2), 6);
        LockMuseum y = museum(1, row(5, 0, 0, 39));
        y.change(39, 10, 2, 0, 1);
        y.want(0);
        Check.due("a shared instruction at 39", y.step(0), 1);
        Check.due("a shared instruction at 39: place", y.about(0, 1), 40);
        Check.due("the step behind it", y.step(0), 4);
        Check.due("the step behind it: place", y.about(0, 1), 40);
        LockMuseum z = museum(1, row(5, 0, 0, 39));
        z.change(39, 12, 0, 0, 0);
        z.want(0);
        Check.due("an ENTER at 39", z.step(0), 2);
        z.leave(0);
        Check.due("leaving with nothing behind", z.step(0), 4);
    }

    // Promise 6
    private static void lostStays() {
        LockMuseum x = museum(2, row(0, 2, 5, 0), row(6, 0, 0, 0), row(5, 0, 0, 2));
        x.want(0);
        x.step(0);
        x.mend();
        x.run(4, 30);
        Check.due("lost for good", x.about(0, 0), 4);
        Check.due("lost: place", x.about(0, 1), 2);
        Check.due("lost: past its door", x.about(0, 2), 1);
        Check.due("lost: register 2", x.register(0, 2), 5);
    }

    // Promises 6 and 10: the meter
    private static void doorAndOvertaking() {
        LockMuseum x = museum(3, row(7, 2, 0, 6), row(6, 0, 0, 0), row(7, 2, 0, 6), row(12, 0, 0, 0));
        for (int p = 0; p < 3; p++) {
            x.want(p);
            x.step(p);
            Check.due("ahead of its door", x.about(p, 2), 0);
        }
        x.step(0);
        x.step(1);
        Check.due("past its door", x.about(1, 2), 1);
        x.step(0);
        Check.due("the one that entered", x.about(0, 3), 0);
        Check.due("the one that entered is past its door no more", x.about(0, 2), 0);
        Check.due("one past its door", x.about(1, 3), 1);
        Check.due("one ahead of its door", x.about(2, 3), 0);
        x.leave(0);
        x.step(0);
        x.want(0);
        x.step(0);
        x.step(0);
        x.step(0);
        Check.due("overtaken twice", x.about(1, 3), 2);
        x.step(2);
        Check.due("has 0 when it passes its door", x.about(2, 3), 0);
        x.step(1);
        Check.due("stays when it has entered", x.about(1, 3), 2);
        Check.due("overtaken by it", x.about(2, 3), 1);
        Check.due("one inside is not overtaken", x.about(0, 3), 0);
        x.step(2);
        Check.due("one that entered ahead is overtaken no more", x.about(1, 3), 2);
    }

    // Promise 6: whoever passes a door again has 0 again
    private static void doorAgain() {
        LockMuseum x = museum(2, row(4, 0, 1, 4), row(13, 0, 0, 0), row(13, 0, 0, 0), row(13, 0, 0, 0),
            row(6, 0, 0, 0), row(7, 2, 0, 6), row(3, 0, 2, 8), row(5, 0, 0, 4), row(12, 0, 0, 0));
        x.want(1);
        x.step(1);
        x.want(0);
        x.step(0);
        x.step(0);
        Check.due("overtaken once", x.about(1, 3), 1);
        x.step(1);
        Check.due("has 0 behind the second door", x.about(1, 3), 0);
        Check.due("is past it", x.about(1, 2), 1);
    }

    // Promise 6: a door can be passed while leaving, but one that leaves isn't overtaken
    private static void doorWhileLeaving() {
        LockMuseum x = museum(2, row(12, 0, 0, 0), row(6, 0, 0, 0), row(7, 2, 0, 6));
        x.want(0);
        x.step(0);
        x.leave(0);
        x.step(0);
        Check.due("past a door while leaving", x.about(0, 2), 1);
        x.want(1);
        x.step(1);
        Check.due("one that leaves isn't overtaken", x.about(0, 3), 0);
        x.step(0);
        Check.due("past its door no more", x.about(0, 2), 0);
    }

    // Promise 6
    private static void lostIsNotOvertaken() {
        LockMuseum x = museum(2, row(0, 2, 1, 0), row(4, 0, 2, 4), row(6, 0, 0, 0), row(5, 0, 0, 3),
            row(12, 0, 0, 0));
        x.want(1);
        Check.due("lost past its door", x.step(1), 4);
        x.want(0);
        Check.due("the other enters", x.step(0), 2);
        Check.due("a lost one isn't overtaken", x.about(1, 3), 0);
        Check.due("a lost one stays past its door", x.about(1, 2), 1);
    }

    // Promises 5, 6 and 10: both stay behind DONE, and begin anew with the next attempt
    private static void stepsAndMeterStay() {
        LockMuseum x = museum(2, row(6, 0, 0, 0), row(7, 2, 0, 6), row(12, 0, 0, 0));
        x.want(0);
        x.step(0);
        x.want(1);
        x.step(1);
        x.step(1);
        x.step(0);
        x.leave(0);
        Check.due("idle", x.step(0), 0);
        Check.due("overtaken, while idle", x.about(0, 3), 1);
        Check.due("steps, while idle", x.about(0, 4), 3);
        x.want(0);
        Check.due("overtaken, anew", x.about(0, 3), 0);
        Check.due("steps, anew", x.about(0, 4), 0);
    }
}
