/** Terms: the exhibits, instruction by instruction. */
final class ExhibitCases {
    private static final String TERMS = "Terms";
    private static final String[] NAMES = {
        "1 SWAP, for any number: ", "2 TICKETS, for any number: ", "3 TWO, for two: ", "4 BAKERY, for any number: ",
        "5 LEVELS, for any number: ",
    };

    private ExhibitCases() {
    }

    static void all() {
        Check.each(ExhibitCases::allDoneBehind, () -> asListed(1), () -> asListed(2), () -> asListed(3),
            () -> asListed(4), () -> asListed(5), ExhibitCases::attemptsOfOneAlone);
    }

    static int length(int method) {
        return PlainMuseum.EXHIBITS[method - 1].split(",").length;
    }

    private static void allDoneBehind() {
        Document.says(TERMS, "EXHIBITS, instruction by instruction from 0 on (kind a b c); behind them all are DONE:");
        for (int method = 1; method <= 5; method++) {
            LockMuseum x = new LockMuseum();
            x.exhibit(method, 2);
            // The last one that is listed is a DONE too.
            for (int i = length(method) - 1; i < 40; i++) {
                Rows.put(x, 0, Rows.go(i));
                x.want(0);
                Check.due("exhibit " + method + ": instruction " + i, x.step(0), 0);
            }
        }
    }

    /** The text that is quoted is the one that PlainMuseum shows. */
    private static void asListed(int method) {
        Document.says(TERMS, NAMES[method - 1] + PlainMuseum.EXHIBITS[method - 1] + ".");
        int least = method == 3 ? 2 : 1;
        int most = method == 3 ? 2 : 3;
        for (int i = 0; i < length(method); i++) {
            for (int draw = 0; draw < 30; draw++) {
                int processes = least + draw % (most - least + 1);
                fromInstruction(method, processes, i, draw);
            }
        }
    }

    /** A process comes to instruction i with drawn words and registers, and goes on from there. */
    private static void fromInstruction(int method, int processes, int i, int draw) {
        Pair pair = new Pair("exhibit " + method + " for " + processes + " from " + i + " on, draw " + draw);
        int p = draw % processes;
        pair.exhibit(method, processes);
        comeTo(pair, p, i, draw);
        pair.mend();
        for (int n = 0; n < 3; n++) {
            pair.goOn(p);
            pair.compare();
        }
    }

    private static void comeTo(Pair pair, int p, int i, int draw) {
        int behind = setWordsAndRegisters(pair, p, draw);
        if (i == 0) {
            // Only the beginning of an attempt comes to 0 with a step still to make, so the words alone are as drawn.
            pair.change(behind, Rows.done());
            pair.step(p);
            pair.want(p);
        } else {
            // A shared instruction just ahead of i ends a step there; it may stand where one of the others stood.
            pair.change(behind, Rows.go(i - 1));
            pair.change(i - 1, Rows.write(5, 7, 6));
            pair.step(p);
        }
        Check.due("the process has come to instruction " + i, pair.mine.about(p, 1), i);
    }

    /** Answers the instruction that is next for process p. */
    private static int setWordsAndRegisters(Pair pair, int p, int draw) {
        pair.change(0, Rows.go(1));
        int at = 1;
        for (int word = 0; word < 8; word++) {
            pair.change(at, Rows.set(2, drawn(draw, word)));
            pair.change(at + 1, Rows.write(2, word, 6));
            at += 2;
        }
        for (int r = 0; r < 6; r++) {
            pair.change(at, Rows.set(r, drawn(draw, 8 + r)));
            at++;
        }
        pair.change(at, Rows.write(5, 7, 6));
        pair.want(p);
        for (int n = 0; n < 9; n++) {
            pair.step(p);
        }
        return at + 1;
    }

    /** Small numbers are drawn more often than large ones, so that jumps are made and not made. */
    private static int drawn(int draw, int which) {
        int mixed = (draw * 31 + which * 17 + draw * which * 7) % 97;
        return draw % 3 == 0 ? mixed % 16 : mixed % 4;
    }

    private static void attemptsOfOneAlone() {
        Document.says(TERMS, "EXHIBITS, instruction by instruction from 0 on (kind a b c);");
        places(1, 1, 2, 6, 8, 0);
        places(2, 1, 1, 3, 6, 7, 0);
        places(3, 2, 6, 7, 9, 15, 17, 0);
        places(4, 1, 2, 6, 12, 14, 31, 32, 0);
        places(4, 2, 2, 6, 6, 12, 14, 19, 22, 31, 32, 0);
        places(5, 1, 19, 21, 0);
        places(5, 2, 3, 4, 8, 19, 21, 0);
    }

    /** The places of process 0 behind its steps, if it is alone. */
    private static void places(int method, int processes, int... due) {
        LockMuseum x = new LockMuseum();
        x.exhibit(method, processes);
        x.want(0);
        for (int i = 0; i < due.length; i++) {
            if (x.about(0, 0) == 2) {
                x.leave(0);
            }
            x.step(0);
            Check.due("exhibit " + method + " for " + processes + ": place " + i, x.about(0, 1), due[i]);
        }
        Check.due("exhibit " + method + " for " + processes + ": at last", x.about(0, 0), 0);
    }
}
