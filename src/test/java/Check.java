/** What the tests share: it counts the wrong answers, prints each, and ends the program. */
final class Check {
    interface Call {
        long answer();
    }

    interface Act {
        void perform();
    }

    private static int made = 0;
    private static int wrong = 0;
    private static String sentence = "";

    private Check() {
    }

    /** What goes wrong from here on is told under this sentence of the document. */
    static void under(String words) {
        sentence = words;
    }

    /** Each test by itself: one that breaks off is wrong under its sentence, and the next ones still run. */
    static void each(Act... tests) {
        for (Act test : tests) {
            under("a test that has quoted nothing");
            try {
                test.perform();
            } catch (RuntimeException e) {
                judge(false, "the test broke off by " + e);
                e.printStackTrace(System.out);
            }
        }
    }

    static void due(String call, long got, long want) {
        judge(got == want, call + " answered " + got + ", due is " + want);
    }

    static void same(String what, String got, String want) {
        judge(got.equals(want), what + ":\n  is  " + got + "\n  due " + want);
    }

    /** The exception must be of the very class: nothing else may reach the caller. */
    static void refused(String call, Class<? extends RuntimeException> due, Act act) {
        String got = thrownBy(act);
        judge(got.equals(due.getSimpleName()), call + " threw " + got + ", due is " + due.getSimpleName());
    }

    static void taken(String call, Act act) {
        String got = thrownBy(act);
        judge(got.equals("nothing"), call + " threw " + got + ", due is nothing");
    }

    private static String thrownBy(Act act) {
        try {
            act.perform();
        } catch (RuntimeException e) {
            return e.getClass().getSimpleName();
        }
        return "nothing";
    }

    private static void judge(boolean right, String story) {
        made++;
        if (!right) {
            wrong++;
            System.out.println(sentence.isEmpty() ? story : sentence + "\n  " + story);
        }
    }

    /** Everything that the face tells of an object, as one text. */
    static String picture(LockMuseum x, int processes) {
        StringBuilder text = new StringBuilder();
        for (int i = 0; i < 8; i++) {
            text.append(x.word(i)).append(' ');
        }
        for (int p = 0; p < processes; p++) {
            text.append("| ");
            for (int r = 0; r < 6; r++) {
                text.append(x.register(p, r)).append(' ');
            }
            for (int what = 0; what < 5; what++) {
                text.append(x.about(p, what)).append(' ');
            }
        }
        text.append("| ").append(x.states()).append(" :");
        int moves = x.trail(-1);
        for (int i = 0; i < moves; i++) {
            text.append(' ').append(x.trail(i));
        }
        return text.toString();
    }

    static int wrongSoFar() {
        return wrong;
    }

    static void finish() {
        System.out.println(made + " answers, " + wrong + " wrong");
        if (wrong != 0) {
            System.exit(1);
        }
    }
}
