import java.util.Arrays;

/** "What it is": the document's first lines, as far as a test can see them. */
final class OutlineCases {
    private static final int[][] SHOWN = {
        {1, 1}, {1, 2}, {1, 3}, {2, 1}, {2, 2}, {2, 3}, {3, 2}, {4, 1}, {4, 2}, {4, 3}, {5, 1}, {5, 2}, {5, 3},
    };

    private OutlineCases() {
    }

    static void all() {
        Check.each(OutlineCases::oneAccessAStep, OutlineCases::oneWordAStepOfTheExhibits, OutlineCases::anyOrder,
            OutlineCases::allOrders, OutlineCases::meter, OutlineCases::calls512);
    }

    private static void oneAccessAStep() {
        Document.says("What it is", "A museum of locks: methods as small programs, each step of which makes one access"
            + " to shared words;");
        LockMuseum x = Rows.museum(1, Rows.set(2, 9), Rows.write(2, 0, 6), Rows.write(2, 1, 6), Rows.read(3, 0, 6),
            Rows.read(4, 1, 6), Rows.fetch(5, 2, 3), Rows.swap(2, 2, 6), Rows.enter());
        x.want(0);
        for (int step = 0; step <= 6; step++) {
            Check.due("place behind step " + step, x.about(0, 1), step == 0 ? 0 : step + 1);
            Check.due("word 0 behind step " + step, x.word(0), step >= 1 ? 9 : 0);
            Check.due("word 1 behind step " + step, x.word(1), step >= 2 ? 9 : 0);
            Check.due("register 3 behind step " + step, x.register(0, 3), step >= 3 ? 9 : 0);
            Check.due("register 4 behind step " + step, x.register(0, 4), step >= 4 ? 9 : 0);
            Check.due("word 2 behind step " + step, x.word(2), step >= 6 ? 9 : step == 5 ? 3 : 0);
            Check.due("step " + (step + 1), x.step(0), step < 6 ? 1 : 2);
        }
    }

    private static void oneWordAStepOfTheExhibits() {
        Document.says("What it is", "each step of which makes one access to shared words;");
        for (int[] row : SHOWN) {
            LockMuseum x = new LockMuseum();
            x.exhibit(row[0], row[1]);
            String before = words(x);
            // 9 calls a move: run moves one process, and eight words are looked at.
            for (int i = 0; i < 50; i++) {
                x.run(31 * i + 7, 1);
                String now = words(x);
                int changed = 0;
                for (int w = 0; w < 8; w++) {
                    changed += before.charAt(w) == now.charAt(w) ? 0 : 1;
                }
                Check.due("exhibit " + row[0] + " for " + row[1] + ", move " + i + ": more than one word changed",
                    changed > 1 ? 1 : 0, 0);
                before = now;
            }
        }
    }

    private static String words(LockMuseum x) {
        StringBuilder text = new StringBuilder();
        for (int i = 0; i < 8; i++) {
            text.append(Integer.toHexString(x.word(i)));
        }
        return text.toString();
    }

    /** All 90 orders of three processes with two steps each; a step fetches its number in the order. */
    private static void anyOrder() {
        Document.says("What it is", "processes that are stepped in any order,");
        int orders = 0;
        for (int order = 0; order < 729; order++) {
            int[] made = new int[3];
            int[] by = new int[6];
            int rest = order;
            for (int i = 0; i < 6; i++) {
                by[i] = rest % 3;
                rest /= 3;
                made[by[i]]++;
            }
            if (made[0] == 2 && made[1] == 2 && made[2] == 2) {
                orders++;
                inOrder(by);
            }
        }
        Check.due("orders", orders, 90);
    }

    private static void inOrder(int[] by) {
        LockMuseum x = Rows.museum(3, Rows.fetch(2, 0, 1), Rows.fetch(3, 0, 1), Rows.enter());
        for (int p = 0; p < 3; p++) {
            x.want(p);
        }
        int[] made = new int[3];
        int[][] due = new int[3][2];
        for (int i = 0; i < 6; i++) {
            Check.due("step " + i, x.step(by[i]), 1);
            due[by[i]][made[by[i]]++] = i;
        }
        for (int p = 0; p < 3; p++) {
            Check.due("first step of " + p, x.register(p, 2), due[p][0]);
            Check.due("second step of " + p, x.register(p, 3), due[p][1]);
        }
        Check.due("steps in all", x.word(0), 6);
    }

    /**
     * Of processes that don't touch one another, each with so many reads an attempt, every mixture comes: one
     * that is idle, or behind one of its reads, for each attempt, and idle without attempts left.
     */
    private static void allOrders() {
        Document.says("What it is", "a judge that goes through all orders,");
        for (int n = 1; n <= 3; n++) {
            for (int attempts = 1; attempts <= 3; attempts++) {
                for (int reads = 0; reads <= 8; reads++) {
                    int alone = attempts * (reads + 1) + 1;
                    int due = 1;
                    for (int p = 0; p < n; p++) {
                        due *= alone;
                    }
                    int[][] rows = new int[reads][];
                    Arrays.fill(rows, Rows.read(2, 0, 6));
                    LockMuseum x = Rows.museum(n, rows);
                    String name = n + " processes, " + reads + " reads: judge(" + attempts + ")";
                    Check.due(name, x.judge(attempts), due > 3000 ? 3 : 0);
                    Check.due(name + ", states", x.states(), Math.min(due, 3000));
                }
            }
        }
    }

    private static void meter() {
        Document.says("What it is", "and a meter of overtaking.");
        LockMuseum x = Rows.museum(2, Rows.like(0, 2, 3), Rows.enter(), Rows.done(), Rows.door(), Rows.read(3, 0, 6),
            Rows.go(4));
        Rows.begin(x, 0, 1);
        for (int times = 1; times <= 50; times++) {
            Rows.begin(x, 1, 1);
            Check.due("overtaken", x.about(0, 3), times);
            Check.due("the other", x.about(1, 3), 0);
            x.leave(1);
            x.step(1);
        }
    }

    private static void calls512() {
        Document.says("What it is", "An object is used for at most 512 calls after it has been made; what later calls"
            + " answer is free.");
        LockMuseum x = new LockMuseum();
        PlainMuseum y = new PlainMuseum();
        x.exhibit(2, 3);
        y.exhibit(2, 3);
        int verdict = y.judge(2);
        for (int i = 0; i < 170; i++) {
            Check.due("call " + (3 * i + 2), x.run(i, 2000), y.run(i, 2000));
            Check.due("call " + (3 * i + 3), x.judge(2), verdict);
            Check.due("call " + (3 * i + 4), x.states(), y.states());
        }
        Check.due("call 512", x.word(0), y.word(0));
    }
}
