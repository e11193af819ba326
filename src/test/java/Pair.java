/** A LockMuseum and a PlainMuseum that get the same calls, and whose answers must be the same. */
final class Pair {
    final LockMuseum mine = new LockMuseum();
    final PlainMuseum plain = new PlainMuseum();
    private final String name;

    Pair(String name) {
        this.name = name;
    }

    void exhibit(int method, int processes) {
        both("exhibit(" + method + ", " + processes + ")",
            () -> { mine.exhibit(method, processes); return 0; },
            () -> { plain.exhibit(method, processes); return 0; });
    }

    void change(int i, int... row) {
        both("change(" + i + ", " + row[0] + ", " + row[1] + ", " + row[2] + ", " + row[3] + ")",
            () -> { mine.change(i, row[0], row[1], row[2], row[3]); return 0; },
            () -> { plain.change(i, row[0], row[1], row[2], row[3]); return 0; });
    }

    void mend() {
        mine.mend();
        plain.mend();
    }

    void want(int p) {
        both("want(" + p + ")", () -> { mine.want(p); return 0; }, () -> { plain.want(p); return 0; });
    }

    void step(int p) {
        both("step(" + p + ")", () -> mine.step(p), () -> plain.step(p));
    }

    void leave(int p) {
        both("leave(" + p + ")", () -> { mine.leave(p); return 0; }, () -> { plain.leave(p); return 0; });
    }

    void word(int i) {
        both("word(" + i + ")", () -> mine.word(i), () -> plain.word(i));
    }

    void register(int p, int r) {
        both("register(" + p + ", " + r + ")", () -> mine.register(p, r), () -> plain.register(p, r));
    }

    void about(int p, int what) {
        both("about(" + p + ", " + what + ")", () -> mine.about(p, what), () -> plain.about(p, what));
    }

    void run(int seed, int times) {
        both("run(" + seed + ", " + times + ")", () -> mine.run(seed, times), () -> plain.run(seed, times));
    }

    void judge(int attempts) {
        both("judge(" + attempts + ")", () -> mine.judge(attempts), () -> plain.judge(attempts));
    }

    void trail(int i) {
        both("trail(" + i + ")", () -> mine.trail(i), () -> plain.trail(i));
    }

    /** A step of p, which leaves first if it is inside; none if it is idle or lost. */
    void goOn(int p) {
        int was = plain.about(p, 0);
        if (was == 2) {
            leave(p);
        }
        if (was != 0 && was != 4) {
            step(p);
        }
    }

    /** Everything that the face tells. */
    void compare() {
        Check.same(name + ", all that is told", Check.picture(mine, plain.n), picture());
    }

    private void both(String call, Check.Call first, Check.Call second) {
        Check.same(name + ", " + call, told(first), told(second));
    }

    private static String told(Check.Call call) {
        try {
            return String.valueOf(call.answer());
        } catch (RuntimeException e) {
            return e.getClass().getSimpleName();
        }
    }

    private String picture() {
        StringBuilder text = new StringBuilder();
        for (int i = 0; i < 8; i++) {
            text.append(plain.word(i)).append(' ');
        }
        for (int p = 0; p < plain.n; p++) {
            text.append("| ");
            for (int r = 0; r < 6; r++) {
                text.append(plain.register(p, r)).append(' ');
            }
            for (int what = 0; what < 5; what++) {
                text.append(plain.about(p, what)).append(' ');
            }
        }
        text.append("| ").append(plain.states()).append(" :");
        for (int move : plain.trail) {
            text.append(' ').append(move);
        }
        return text.toString();
    }
}
