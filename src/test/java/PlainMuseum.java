import java.util.ArrayList;
import java.util.HashMap;
import java.util.List;

/**
 * The document a second time, in another form: whole rows of numbers, texts as keys of states, and no
 * thought of room. RandomRunsTest compares LockMuseum with it.
 */
final class PlainMuseum {
    /** As the document writes them. */
    static final String[] EXHIBITS = {
        "0 2 1, 9 2 0 6, 0 3 0, 3 2 3 5, 5 . . 0, 12, 0 2 0, 8 2 0 6, 13",
        "10 2 0 1, 6, 7 3 1 6, 3 2 3 5, 5 . . 2, 12, 10 3 1 1, 13",
        "0 1 1, 0 3 0, 3 0 3 4, 0 1 0, 0 2 1, 8 2 0 0, 8 1 2 6, 6, 7 2 0 1, 0 3 0, 3 2 3 14, 7 2 2 6, 3 2 0 14, 5 . . 8, 12, 0 2 0, 8 2 0 0, 13",
        "0 2 1, 8 2 0 0, 0 3 0, 0 4 0, 3 4 1 10, 7 5 3 4, 4 5 3 8, 2 3 5, 1 4 1, 5 . . 4, 1 3 1, 8 3 3 0, 0 2 0, 8 2 0 0, 6, 0 4 0, 3 4 1 30, 3 4 0 28, 7 5 0 4, 3 5 2 21, 5 . . 18, 7 5 3 4, 3 5 2 28, 4 5 3 21, 3 5 3 26, 5 . . 28, 4 4 0 21, 5 . . 28, 1 4 1, 5 . . 16, 12, 8 2 3 0, 13",
        "0 2 1, 3 2 1 18, 8 2 0 0, 8 0 3 2, 0 4 0, 3 4 1 16, 3 4 0 14, 7 5 0 4, 4 5 2 14, 7 5 3 2, 3 5 0 12, 5 . . 16, 0 4 0, 5 . . 5, 1 4 1, 5 . . 5, 1 2 1, 5 . . 1, 12, 0 2 0, 8 2 0 0, 13"
    };

    /** Everything that moves: words, and for each process what it is, its place, door, meter, steps and registers. */
    static final class World {
        final int[] words = new int[8];
        final int[] what = new int[3];
        final int[] place = new int[3];
        final int[] door = new int[3];
        final int[] over = new int[3];
        final int[] steps = new int[3];
        final int[] left = new int[3];
        final int[][] regs = new int[3][6];

        World copy() {
            World w = new World();
            System.arraycopy(words, 0, w.words, 0, 8);
            System.arraycopy(what, 0, w.what, 0, 3);
            System.arraycopy(place, 0, w.place, 0, 3);
            System.arraycopy(left, 0, w.left, 0, 3);
            for (int p = 0; p < 3; p++) {
                w.regs[p] = regs[p].clone();
            }
            return w;
        }

        String key() {
            StringBuilder s = new StringBuilder();
            for (int v : words) {
                s.append(v).append(',');
            }
            for (int p = 0; p < 3; p++) {
                s.append(what[p]).append(',').append(place[p]).append(',').append(left[p]);
                for (int v : regs[p]) {
                    s.append(',').append(v);
                }
                s.append(';');
            }
            return s.toString();
        }
    }

    int[][] code = new int[40][4];
    World world = new World();
    int n;
    int shown;
    int found = 0;
    int limit = 3000;
    List<Integer> trail = new ArrayList<>();

    PlainMuseum() {
        exhibit(1, 2);
    }

    void exhibit(int method, int processes) {
        if (method < 1 || method > 5 || processes < 1 || processes > 3 || method == 3 && processes != 2) {
            throw new IllegalArgumentException();
        }
        shown = method;
        n = processes;
        world = new World();
        mend();
    }

    void mend() {
        code = new int[40][4];
        for (int[] row : code) {
            row[0] = 13;
        }
        String[] rows = EXHIBITS[shown - 1].split(", ");
        for (int i = 0; i < rows.length; i++) {
            String[] parts = rows[i].trim().split(" ");
            for (int k = 0; k < parts.length; k++) {
                code[i][k] = parts[k].equals(".") ? 0 : Integer.parseInt(parts[k]);
            }
        }
    }

    private static boolean in(int v, int from, int to) {
        return from <= v && v <= to;
    }

    void change(int i, int kind, int a, int b, int c) {
        boolean fine = in(i, 0, 39) && in(kind, 0, 13);
        if (kind != 5 && kind != 6 && kind != 12 && kind != 13) {
            fine &= in(a, 0, 5);
        }
        if (kind == 0 || kind == 1) {
            fine &= in(b, 0, 15);
        }
        if (kind == 2 || kind == 3 || kind == 4) {
            fine &= in(b, 0, 5);
        }
        if (kind >= 7 && kind <= 11) {
            fine &= in(b, 0, 7);
        }
        if (kind == 3 || kind == 4 || kind == 5) {
            fine &= in(c, 0, 39);
        }
        if (kind >= 7 && kind <= 9) {
            fine &= in(c, 0, 6);
        }
        if (kind == 10) {
            fine &= in(c, 0, 15);
        }
        if (kind == 11) {
            fine &= in(c, 0, 5);
        }
        if (!fine) {
            throw new IllegalArgumentException();
        }
        code[i] = new int[] {kind, a, b, c};
    }

    private void known(int p) {
        if (p < 0 || p >= n) {
            throw new IllegalArgumentException();
        }
    }

    void want(int p) {
        known(p);
        if (world.what[p] != 0) {
            throw new IllegalStateException();
        }
        begin(world, p);
    }

    int step(int p) {
        known(p);
        if (world.what[p] != 1 && world.what[p] != 3) {
            throw new IllegalStateException();
        }
        advance(world, p);
        return world.what[p];
    }

    void leave(int p) {
        known(p);
        if (world.what[p] != 2) {
            throw new IllegalStateException();
        }
        world.what[p] = 3;
    }

    int word(int i) {
        if (i < 0 || i > 7) {
            throw new IndexOutOfBoundsException();
        }
        return world.words[i];
    }

    int register(int p, int r) {
        known(p);
        if (r < 0 || r > 5) {
            throw new IndexOutOfBoundsException();
        }
        return world.regs[p][r];
    }

    int about(int p, int what) {
        known(p);
        if (what < 0 || what > 4) {
            throw new IllegalArgumentException();
        }
        int[][] rows = {world.what, world.place, world.door, world.over, world.steps};
        return rows[what][p];
    }

    int run(int seed, int times) {
        if (times < 0 || times > 2000) {
            throw new IllegalArgumentException();
        }
        int entries = 0;
        for (int i = 0; i < times; i++) {
            seed = seed * 1103515245 + 12345;
            int p = (seed >>> 16) % n;
            if (world.what[p] == 4) {
                continue;
            }
            move(world, p);
            entries += world.what[p] == 2 ? 1 : 0;
        }
        return entries;
    }

    private void begin(World w, int p) {
        w.what[p] = 1;
        w.place[p] = 0;
        w.regs[p] = new int[] {p, n, 0, 0, 0, 0};
        w.door[p] = 0;
        w.over[p] = 0;
        w.steps[p] = 0;
    }

    private void move(World w, int p) {
        if (w.what[p] == 0) {
            begin(w, p);
        } else if (w.what[p] == 2) {
            w.what[p] = 3;
        }
        advance(w, p);
    }

    private void advance(World w, int p) {
        w.steps[p]++;
        int[] r = w.regs[p];
        int free = 0;
        while (true) {
            if (w.place[p] == 40) {
                w.what[p] = 4;
                return;
            }
            int[] now = code[w.place[p]];
            int kind = now[0];
            int a = now[1];
            int b = now[2];
            int c = now[3];
            if (kind == 13) {
                w.what[p] = 0;
                w.place[p] = 0;
                w.door[p] = 0;
                w.regs[p] = new int[6];
                return;
            }
            boolean isFree = kind < 7 || kind == 12 && w.what[p] == 3;
            if (isFree && free == 60) {
                w.what[p] = 4;
                return;
            }
            w.place[p]++;
            if (kind == 12 && w.what[p] == 1) {
                w.what[p] = 2;
                w.door[p] = 0;
                for (int q = 0; q < n; q++) {
                    if (q != p && w.what[q] == 1 && w.door[q] == 1) {
                        w.over[q]++;
                    }
                }
                return;
            }
            if (!isFree) {
                shared(w, r, kind, a, b, c);
                return;
            }
            free++;
            if (kind == 0) {
                r[a] = b;
            } else if (kind == 1) {
                r[a] = (r[a] + b) % 16;
            } else if (kind == 2) {
                r[a] = r[b];
            } else if (kind == 3 && r[a] == r[b] || kind == 4 && r[a] < r[b] || kind == 5) {
                w.place[p] = c;
            } else if (kind == 6) {
                w.door[p] = 1;
                w.over[p] = 0;
            }
        }
    }

    private static void shared(World w, int[] r, int kind, int a, int b, int c) {
        int at = kind > 9 || c == 6 ? b : (b + r[c]) % 8;
        int word = w.words[at];
        if (kind == 7) {
            r[a] = word;
        } else if (kind == 8) {
            w.words[at] = r[a];
        } else if (kind == 9) {
            w.words[at] = r[a];
            r[a] = word;
        } else if (kind == 10) {
            r[a] = word;
            w.words[at] = (word + c) % 16;
        } else if (word == r[a]) {
            w.words[at] = r[c];
            r[a] = 1;
        } else {
            r[a] = 0;
        }
    }

    int judge(int attempts) {
        if (attempts < 1 || attempts > 3) {
            throw new IllegalArgumentException();
        }
        List<World> all = new ArrayList<>();
        List<List<Integer>> ways = new ArrayList<>();
        List<int[]> edges = new ArrayList<>();
        HashMap<String, Integer> numbers = new HashMap<>();
        World first = new World();
        for (int p = 0; p < n; p++) {
            first.left[p] = attempts;
        }
        all.add(first);
        ways.add(new ArrayList<>());
        numbers.put(first.key(), 0);
        trail = new ArrayList<>();
        for (int s = 0; s < all.size(); s++) {
            for (int p = 0; p < n; p++) {
                World w = all.get(s).copy();
                if (w.what[p] == 4 || w.what[p] == 0 && w.left[p] == 0) {
                    continue;
                }
                if (w.what[p] == 0) {
                    w.left[p]--;
                }
                move(w, p);
                Integer known = numbers.get(w.key());
                if (known == null) {
                    if (all.size() == limit) {
                        found = limit;
                        return 3;
                    }
                    known = all.size();
                    numbers.put(w.key(), known);
                    all.add(w);
                    List<Integer> way = new ArrayList<>(ways.get(s));
                    way.add(p);
                    ways.add(way);
                    int inside = 0;
                    for (int q = 0; q < n; q++) {
                        inside += w.what[q] == 2 ? 1 : 0;
                    }
                    if (inside > 1) {
                        found = all.size();
                        trail = way;
                        return 1;
                    }
                }
                edges.add(new int[] {s, known});
            }
        }
        found = all.size();
        return allCanEnd(all, edges) ? 0 : 2;
    }

    private boolean allCanEnd(List<World> all, List<int[]> edges) {
        boolean[] ends = new boolean[all.size()];
        for (int s = 0; s < ends.length; s++) {
            ends[s] = true;
            for (int p = 0; p < n; p++) {
                ends[s] &= all.get(s).what[p] == 0 && all.get(s).left[p] == 0;
            }
        }
        boolean grew = true;
        while (grew) {
            grew = false;
            for (int i = edges.size() - 1; i >= 0; i--) {
                int[] e = edges.get(i);
                if (ends[e[1]] && !ends[e[0]]) {
                    ends[e[0]] = true;
                    grew = true;
                }
            }
        }
        for (boolean e : ends) {
            if (!e) {
                return false;
            }
        }
        return true;
    }

    int states() {
        return found;
    }

    int trail(int i) {
        if (i == -1) {
            return trail.size();
        }
        if (i < 0 || i >= trail.size()) {
            throw new IndexOutOfBoundsException();
        }
        return trail.get(i);
    }
}
