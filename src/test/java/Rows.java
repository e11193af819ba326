/** Instructions by name, and museums that show a method made of them. */
final class Rows {
    private Rows() {
    }

    static int[] set(int a, int b) {
        return new int[] {0, a, b, 0};
    }

    static int[] add(int a, int b) {
        return new int[] {1, a, b, 0};
    }

    static int[] copy(int a, int b) {
        return new int[] {2, a, b, 0};
    }

    static int[] like(int a, int b, int c) {
        return new int[] {3, a, b, c};
    }

    static int[] less(int a, int b, int c) {
        return new int[] {4, a, b, c};
    }

    static int[] go(int c) {
        return new int[] {5, 0, 0, c};
    }

    static int[] door() {
        return new int[] {6, 0, 0, 0};
    }

    static int[] read(int a, int b, int c) {
        return new int[] {7, a, b, c};
    }

    static int[] write(int a, int b, int c) {
        return new int[] {8, a, b, c};
    }

    static int[] swap(int a, int b, int c) {
        return new int[] {9, a, b, c};
    }

    static int[] fetch(int a, int b, int c) {
        return new int[] {10, a, b, c};
    }

    static int[] attempt(int a, int b, int c) {
        return new int[] {11, a, b, c};
    }

    static int[] enter() {
        return new int[] {12, 0, 0, 0};
    }

    static int[] done() {
        return new int[] {13, 0, 0, 0};
    }

    static void put(LockMuseum x, int i, int[] row) {
        x.change(i, row[0], row[1], row[2], row[3]);
    }

    /** A museum for so many, with these instructions from 0 on and nothing but DONE behind them: 41 calls. */
    static LockMuseum museum(int processes, int[]... rows) {
        LockMuseum x = new LockMuseum();
        x.exhibit(1, processes);
        for (int i = 0; i < 40; i++) {
            put(x, i, i < rows.length ? rows[i] : done());
        }
        return x;
    }

    /** Process p begins an attempt and makes so many steps. */
    static void begin(LockMuseum x, int p, int steps) {
        x.want(p);
        advance(x, p, steps);
    }

    static void advance(LockMuseum x, int p, int steps) {
        for (int i = 0; i < steps; i++) {
            x.step(p);
        }
    }
}
