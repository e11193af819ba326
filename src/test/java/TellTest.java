/** Promises 8 to 10: word, register and about. */
public final class TellTest {
    private static final Class<IllegalArgumentException> ARGUMENT = IllegalArgumentException.class;
    private static final Class<IndexOutOfBoundsException> INDEX = IndexOutOfBoundsException.class;
    private static final int[] FAR = {Integer.MIN_VALUE, -1, Integer.MAX_VALUE};

    public static void main(String[] args) {
        words();
        wordsThatAreNot();
        registers();
        registersThatAreNot();
        about();
        aboutThatIsNot();
        Check.finish();
    }

    // Promise 8
    private static void words() {
        LockMuseum x = new LockMuseum();
        x.exhibit(1, 1);
        for (int i = 0; i < 8; i++) {
            x.change(2 * i, 0, 2, 15 - i, 0);
            x.change(2 * i + 1, 8, 2, i, 6);
        }
        x.want(0);
        for (int i = 0; i < 8; i++) {
            Check.due("word(" + i + ") ahead", x.word(i), 0);
            x.step(0);
            for (int k = 0; k < 8; k++) {
                Check.due("word(" + k + ")", x.word(k), k <= i ? 15 - k : 0);
            }
        }
    }

    // Promise 8
    private static void wordsThatAreNot() {
        LockMuseum x = new LockMuseum();
        x.run(1, 5);
        String before = Check.picture(x, 2);
        Check.refused("word(8)", INDEX, () -> x.word(8));
        for (int i : FAR) {
            Check.refused("word(" + i + ")", INDEX, () -> x.word(i));
        }
        Check.same("a refused word", Check.picture(x, 2), before);
    }

    // Promise 9
    private static void registers() {
        LockMuseum x = new LockMuseum();
        x.exhibit(1, 3);
        for (int r = 0; r < 6; r++) {
            x.change(r, 1, r, 10 + r, 0);
        }
        x.change(6, 12, 0, 0, 0);
        x.want(2);
        x.step(2);
        int[] due = {12, 14, 12, 13, 14, 15};
        for (int r = 0; r < 6; r++) {
            Check.due("register(2, " + r + ")", x.register(2, r), due[r]);
            Check.due("register(0, " + r + ") of an idle one", x.register(0, r), 0);
        }
    }

    // Promise 9
    private static void registersThatAreNot() {
        LockMuseum x = new LockMuseum();
        x.run(1, 5);
        String before = Check.picture(x, 2);
        Check.refused("register(0, 6)", INDEX, () -> x.register(0, 6));
        Check.refused("register(2, 0)", ARGUMENT, () -> x.register(2, 0));
        Check.refused("register(2, 6): the process is first", ARGUMENT, () -> x.register(2, 6));
        Check.refused("register(-1, -1): the process is first", ARGUMENT, () -> x.register(-1, -1));
        for (int i : FAR) {
            Check.refused("register(" + i + ", 0)", ARGUMENT, () -> x.register(i, 0));
            Check.refused("register(1, " + i + ")", INDEX, () -> x.register(1, i));
        }
        Check.same("a refused register", Check.picture(x, 2), before);
    }

    // Promise 10
    private static void about() {
        LockMuseum x = new LockMuseum();
        x.exhibit(2, 2);
        x.want(0);
        x.step(0);
        x.want(1);
        x.step(1);
        x.step(1);
        told(x, 1, new int[] {1, 3, 1, 0, 2});
        x.step(0);
        told(x, 0, new int[] {1, 3, 1, 0, 2});
        x.step(0);
        told(x, 0, new int[] {2, 6, 0, 0, 3});
        told(x, 1, new int[] {1, 3, 1, 1, 2});
        x.leave(0);
        told(x, 0, new int[] {3, 6, 0, 0, 3});
        x.step(0);
        x.step(0);
        told(x, 0, new int[] {0, 0, 0, 0, 5});
        x.change(3, 5, 0, 0, 3);
        x.step(1);
        told(x, 1, new int[] {4, 3, 1, 1, 3});
    }

    private static void told(LockMuseum x, int p, int[] due) {
        for (int what = 0; what < 5; what++) {
            Check.due("about(" + p + ", " + what + ")", x.about(p, what), due[what]);
        }
    }

    // Promise 10
    private static void aboutThatIsNot() {
        LockMuseum x = new LockMuseum();
        x.run(1, 5);
        String before = Check.picture(x, 2);
        Check.refused("about(0, 5)", ARGUMENT, () -> x.about(0, 5));
        Check.refused("about(2, 0)", ARGUMENT, () -> x.about(2, 0));
        Check.refused("about(2, 5)", ARGUMENT, () -> x.about(2, 5));
        for (int i : FAR) {
            Check.refused("about(" + i + ", 0)", ARGUMENT, () -> x.about(i, 0));
            Check.refused("about(1, " + i + ")", ARGUMENT, () -> x.about(1, i));
        }
        Check.same("a refused about", Check.picture(x, 2), before);
    }
}
