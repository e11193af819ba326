import java.util.Random;

/** Runs of drawn calls (always the same ones) on LockMuseum and on PlainMuseum: promises 1 to 14, all together. */
public final class RandomRunsTest {
    private static final int RUNS = 1500;
    /** With the looks at everything, a run stays under the 512 calls that an object is good for. */
    private static final int CALLS = 150;
    private static final int LOOKS = 4;

    private final Random dice;
    private final Pair pair;
    private int looks = 0;

    private RandomRunsTest(int run) {
        this.dice = new Random(run);
        this.pair = new Pair("run " + run);
    }

    public static void main(String[] args) {
        for (int run = 0; run < RUNS && Check.wrongSoFar() < 20; run++) {
            new RandomRunsTest(run).play();
        }
        Check.finish();
    }

    private void play() {
        int judged = 0;
        for (int i = 0; i < CALLS; i++) {
            int draw = dice.nextInt(100);
            if (draw < 4) {
                pair.exhibit(dice.nextInt(7), dice.nextInt(5));
            } else if (draw < 14) {
                change();
            } else if (draw < 16) {
                pair.mend();
            } else if (draw < 19) {
                pair.run(dice.nextInt(), dice.nextInt(40) - 1);
            } else if (draw < 21 && judged < 4) {
                judged++;
                pair.judge(dice.nextInt(5));
                pair.trail(-1);
            } else {
                single(draw);
            }
        }
        pair.compare();
    }

    private void change() {
        int i = dice.nextInt(dice.nextInt(4) == 0 ? 42 : 16) - 1;
        int kind = dice.nextInt(16) - 1;
        int a = dice.nextInt(8) - 1;
        int b = dice.nextInt(dice.nextInt(2) == 0 ? 18 : 7) - 1;
        int c = dice.nextInt(dice.nextInt(2) == 0 ? 42 : 8) - 1;
        pair.change(i, kind, a, b, c);
    }

    private void single(int draw) {
        int p = dice.nextInt(20) == 0 ? dice.nextInt(6) - 1 : dice.nextInt(pair.plain.n);
        int i = dice.nextInt(11) - 1;
        if (draw < 35) {
            pair.want(p);
        } else if (draw < 75) {
            pair.step(p);
        } else if (draw < 85) {
            pair.leave(p);
        } else if (draw < 88) {
            pair.word(i);
        } else if (draw < 91) {
            pair.register(p, i);
        } else if (draw < 95) {
            pair.about(p, i);
        } else if (draw < 97) {
            pair.trail(i);
        } else if (looks < LOOKS) {
            looks++;
            pair.compare();
        }
    }
}
