/** What the tests share: it counts the wrong answers, prints each, and ends the program. */
final class Check {
    interface Call {
        long answer();
    }

    interface Act {
        void perform();
    }

    private static int made = 0;
    private static int wrong = 0;

    private Check() {
    }

    static void due(String call, long got, long want) {
        made++;
        if (got != want) {
            wrong++;
            System.out.println(call + " answered " + got + ", due is " + want);
        }
    }

    /** The exception must be of the very class: nothing else may reach the caller. */
    static void refused(String call, Class<? extends RuntimeException> due, Act act) {
        String got = "nothing";
        try {
            act.perform();
        } catch (RuntimeException e) {
            got = e.getClass().getSimpleName();
        }
        made++;
        if (!got.equals(due.getSimpleName())) {
            wrong++;
            System.out.println(call + " threw " + got + ", due is " + due.getSimpleName());
        }
    }

    /** Everything that the face tells of an object, as one text. */
    static String picture(LockMuseum x, int processes) {
        StringBuilder text = new StringBuilder();
        for (int i = 0; i < 8; i++) {
            text.append(x.word(i)).append(' ');
        }
        for (int p = 0; p < processes; p++) {
            text.append("| ");
            for (int r = 0; r < 6; r++) {
                text.append(x.register(p, r)).append(' ');
            }
            for (int what = 0; what < 5; what++) {
                text.append(x.about(p, what)).append(' ');
            }
        }
        text.append("| ").append(x.states()).append(" :");
        for (int i = 0; i < x.trail(-1); i++) {
            text.append(' ').append(x.trail(i));
        }
        return text.toString();
    }

    static void same(String what, String got, String want) {
        made++;
        if (!got.equals(want)) {
            wrong++;
            System.out.println(what + ": is    " + got);
            System.out.println(what + ": due   " + want);
        }
    }

    static int wrongSoFar() {
        return wrong;
    }

    static void finish() {
        System.out.println(made + " answers, " + wrong + " wrong");
        if (wrong != 0) {
            System.exit(1);
        }
    }
}
