import java.util.Random;

/** Runs of drawn calls (always the same ones) on LockMuseum and on PlainMuseum: promises 1 to 14, all together. */
public final class RandomRunsTest {
    private static final int RUNS = 1500;
    private static final int CALLS = 200;

    private final Random dice;
    private final LockMuseum x = new LockMuseum();
    private final PlainMuseum y = new PlainMuseum();
    private final int run;

    private RandomRunsTest(int run) {
        this.run = run;
        this.dice = new Random(run);
    }

    public static void main(String[] args) {
        for (int run = 0; run < RUNS && Check.wrongSoFar() < 20; run++) {
            new RandomRunsTest(run).play();
        }
        Check.finish();
    }

    private void play() {
        int judged = 0;
        for (int i = 0; i < CALLS; i++) {
            int draw = dice.nextInt(100);
            if (draw < 4) {
                exhibit();
            } else if (draw < 14) {
                change();
            } else if (draw < 16) {
                x.mend();
                y.mend();
            } else if (draw < 19) {
                int seed = dice.nextInt();
                int times = dice.nextInt(40) - 1;
                both("run(" + seed + ", " + times + ")", () -> x.run(seed, times), () -> y.run(seed, times));
            } else if (draw < 21 && judged < 4) {
                judged++;
                int attempts = dice.nextInt(5);
                both("judge(" + attempts + ")", () -> x.judge(attempts), () -> y.judge(attempts));
                look();
            } else {
                single(draw);
            }
        }
        look();
    }

    private void exhibit() {
        int method = dice.nextInt(7);
        int processes = dice.nextInt(5);
        both("exhibit(" + method + ", " + processes + ")",
            () -> { x.exhibit(method, processes); return 0; },
            () -> { y.exhibit(method, processes); return 0; });
    }

    private void change() {
        int i = dice.nextInt(dice.nextInt(4) == 0 ? 42 : 16) - 1;
        int kind = dice.nextInt(16) - 1;
        int a = dice.nextInt(8) - 1;
        int b = dice.nextInt(dice.nextInt(2) == 0 ? 18 : 7) - 1;
        int c = dice.nextInt(dice.nextInt(2) == 0 ? 42 : 8) - 1;
        both("change(" + i + ", " + kind + ", " + a + ", " + b + ", " + c + ")",
            () -> { x.change(i, kind, a, b, c); return 0; },
            () -> { y.change(i, kind, a, b, c); return 0; });
    }

    private void single(int draw) {
        int p = dice.nextInt(20) == 0 ? dice.nextInt(6) - 1 : dice.nextInt(y.n);
        int i = dice.nextInt(11) - 1;
        if (draw < 35) {
            both("want(" + p + ")", () -> { x.want(p); return 0; }, () -> { y.want(p); return 0; });
        } else if (draw < 75) {
            both("step(" + p + ")", () -> x.step(p), () -> y.step(p));
        } else if (draw < 85) {
            both("leave(" + p + ")", () -> { x.leave(p); return 0; }, () -> { y.leave(p); return 0; });
        } else if (draw < 88) {
            both("word(" + i + ")", () -> x.word(i), () -> y.word(i));
        } else if (draw < 91) {
            both("register(" + p + ", " + i + ")", () -> x.register(p, i), () -> y.register(p, i));
        } else if (draw < 95) {
            both("about(" + p + ", " + i + ")", () -> x.about(p, i), () -> y.about(p, i));
        } else if (draw < 97) {
            both("trail(" + i + ")", () -> x.trail(i), () -> y.trail(i));
        } else {
            look();
        }
    }

    private void both(String call, Check.Call mine, Check.Call plain) {
        Check.same("run " + run + " " + call, told(mine), told(plain));
    }

    private static String told(Check.Call call) {
        try {
            return String.valueOf(call.answer());
        } catch (RuntimeException e) {
            return e.getClass().getSimpleName();
        }
    }

    private void look() {
        StringBuilder text = new StringBuilder();
        for (int i = 0; i < 8; i++) {
            text.append(y.word(i)).append(' ');
        }
        for (int p = 0; p < y.n; p++) {
            text.append("| ");
            for (int r = 0; r < 6; r++) {
                text.append(y.register(p, r)).append(' ');
            }
            for (int what = 0; what < 5; what++) {
                text.append(y.about(p, what)).append(' ');
            }
        }
        text.append("| ").append(y.states()).append(" :");
        for (int move : y.trail) {
            text.append(' ').append(move);
        }
        Check.same("run " + run + " all that is told", Check.picture(x, y.n), text.toString());
    }
}
