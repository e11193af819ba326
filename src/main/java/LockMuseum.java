import java.util.Arrays;

public final class LockMuseum {
    public static final int NONE = -1;

    private static final int WORDS = 8;
    private static final int MOST_PROCESSES = 3;
    private static final int REGISTERS = 6;
    private static final int INSTRUCTIONS = 40;
    private static final int KINDS = 14;
    private static final int FREE_LIMIT = 60;
    private static final int MOST_TIMES = 2000;
    private static final int MOST_ATTEMPTS = 3;
    private static final int ABOUTS = 5;

    private static final int IDLE = 0;
    private static final int TRYING = 1;
    private static final int INSIDE = 2;
    private static final int LEAVING = 3;
    private static final int LOST = 4;

    private static final int SET = 0;
    private static final int ADD = 1;
    private static final int COPY = 2;
    private static final int LIKE = 3;
    private static final int LESS = 4;
    private static final int GO = 5;
    private static final int DOOR = 6;
    private static final int READ = 7;
    private static final int WRITE = 8;
    private static final int SWAP = 9;
    private static final int FETCH = 10;
    private static final int TRY = 11;
    private static final int ENTER = 12;
    private static final int DONE = 13;

    /** As c of READ, WRITE and SWAP: no register is added to the word's number. */
    private static final int NO_REGISTER = 6;

    /** For each kind, how many values a, b and c may take from 0 on; 0 where the operand isn't told. */
    private static final int[] OPERAND_LIMITS = {
        6, 16, 0,
        6, 16, 0,
        6, 6, 0,
        6, 6, 40,
        6, 6, 40,
        0, 0, 40,
        0, 0, 0,
        6, 8, 7,
        6, 8, 7,
        6, 8, 7,
        6, 8, 16,
        6, 8, 6,
        0, 0, 0,
        0, 0, 0,
    };

    private static final int SWAP_EXHIBIT = 1;
    private static final int TICKETS_EXHIBIT = 2;
    private static final int TWO_EXHIBIT = 3;
    private static final int BAKERY_EXHIBIT = 4;
    private static final int LEVELS_EXHIBIT = 5;

    private static final int[] SWAP_METHOD = {
        0, 2, 1, 0,
        9, 2, 0, 6,
        0, 3, 0, 0,
        3, 2, 3, 5,
        5, 0, 0, 0,
        12, 0, 0, 0,
        0, 2, 0, 0,
        8, 2, 0, 6,
        13, 0, 0, 0,
    };

    private static final int[] TICKETS_METHOD = {
        10, 2, 0, 1,
        6, 0, 0, 0,
        7, 3, 1, 6,
        3, 2, 3, 5,
        5, 0, 0, 2,
        12, 0, 0, 0,
        10, 3, 1, 1,
        13, 0, 0, 0,
    };

    private static final int[] TWO_METHOD = {
        0, 1, 1, 0,
        0, 3, 0, 0,
        3, 0, 3, 4,
        0, 1, 0, 0,
        0, 2, 1, 0,
        8, 2, 0, 0,
        8, 1, 2, 6,
        6, 0, 0, 0,
        7, 2, 0, 1,
        0, 3, 0, 0,
        3, 2, 3, 14,
        7, 2, 2, 6,
        3, 2, 0, 14,
        5, 0, 0, 8,
        12, 0, 0, 0,
        0, 2, 0, 0,
        8, 2, 0, 0,
        13, 0, 0, 0,
    };

    private static final int[] BAKERY_METHOD = {
        0, 2, 1, 0,
        8, 2, 0, 0,
        0, 3, 0, 0,
        0, 4, 0, 0,
        3, 4, 1, 10,
        7, 5, 3, 4,
        4, 5, 3, 8,
        2, 3, 5, 0,
        1, 4, 1, 0,
        5, 0, 0, 4,
        1, 3, 1, 0,
        8, 3, 3, 0,
        0, 2, 0, 0,
        8, 2, 0, 0,
        6, 0, 0, 0,
        0, 4, 0, 0,
        3, 4, 1, 30,
        3, 4, 0, 28,
        7, 5, 0, 4,
        3, 5, 2, 21,
        5, 0, 0, 18,
        7, 5, 3, 4,
        3, 5, 2, 28,
        4, 5, 3, 21,
        3, 5, 3, 26,
        5, 0, 0, 28,
        4, 4, 0, 21,
        5, 0, 0, 28,
        1, 4, 1, 0,
        5, 0, 0, 16,
        12, 0, 0, 0,
        8, 2, 3, 0,
        13, 0, 0, 0,
    };

    private static final int[] LEVELS_METHOD = {
        0, 2, 1, 0,
        3, 2, 1, 18,
        8, 2, 0, 0,
        8, 0, 3, 2,
        0, 4, 0, 0,
        3, 4, 1, 16,
        3, 4, 0, 14,
        7, 5, 0, 4,
        4, 5, 2, 14,
        7, 5, 3, 2,
        3, 5, 0, 12,
        5, 0, 0, 16,
        0, 4, 0, 0,
        5, 0, 0, 5,
        1, 4, 1, 0,
        5, 0, 0, 5,
        1, 2, 1, 0,
        5, 0, 0, 1,
        12, 0, 0, 0,
        0, 2, 0, 0,
        8, 2, 0, 0,
        13, 0, 0, 0,
    };

    private final Program program;
    private final Hall hall;
    private final Judge bench;
    private int exhibitShown;

    public LockMuseum() {
        program = new Program();
        hall = new Hall();
        bench = new Judge();
        show(SWAP_EXHIBIT, 2);
    }

    public void exhibit(int method, int processes) throws IllegalArgumentException {
        if (method < SWAP_EXHIBIT || method > LEVELS_EXHIBIT) {
            throw new IllegalArgumentException("no such exhibit");
        }
        if (processes < 1 || processes > MOST_PROCESSES || (method == TWO_EXHIBIT && processes != 2)) {
            throw new IllegalArgumentException("the exhibit isn't for so many");
        }
        show(method, processes);
    }

    public void change(int i, int kind, int a, int b, int c) throws IllegalArgumentException {
        if (i < 0 || i >= INSTRUCTIONS) {
            throw new IllegalArgumentException("no such instruction");
        }
        if (kind < 0 || kind >= KINDS) {
            throw new IllegalArgumentException("no such kind");
        }
        if (!operandFits(kind, 0, a) || !operandFits(kind, 1, b) || !operandFits(kind, 2, c)) {
            throw new IllegalArgumentException("no such register, word, number or instruction");
        }
        program.rows[i].become(kind, a, b, c);
    }

    public void mend() {
        program.load(instructionsOf(exhibitShown));
    }

    public void want(int p) throws IllegalArgumentException, IllegalStateException {
        Contender it = processOf(p);
        if (it.what != IDLE) {
            throw new IllegalStateException("it isn't idle");
        }
        it.begin(p, hall.count);
    }

    public int step(int p) throws IllegalArgumentException, IllegalStateException {
        Contender it = processOf(p);
        if (it.what != TRYING && it.what != LEAVING) {
            throw new IllegalStateException("it isn't trying or leaving");
        }
        hall.advance(p, program);
        return it.what;
    }

    public void leave(int p) throws IllegalArgumentException, IllegalStateException {
        Contender it = processOf(p);
        if (it.what != INSIDE) {
            throw new IllegalStateException("it isn't inside");
        }
        it.what = LEAVING;
    }

    public int word(int i) throws IndexOutOfBoundsException {
        if (i < 0 || i >= WORDS) {
            throw new IndexOutOfBoundsException("no such word");
        }
        return nibble(hall.words, i);
    }

    public int register(int p, int r) throws IllegalArgumentException, IndexOutOfBoundsException {
        Contender it = processOf(p);
        if (r < 0 || r >= REGISTERS) {
            throw new IndexOutOfBoundsException("no such register");
        }
        return nibble(it.registers, r);
    }

    public int about(int p, int what) throws IllegalArgumentException {
        Contender it = processOf(p);
        if (what < 0 || what >= ABOUTS) {
            throw new IllegalArgumentException("there is nothing such to tell");
        }
        switch (what) {
            case 0: return it.what;
            case 1: return it.place;
            case 2: return it.pastDoor ? 1 : 0;
            case 3: return it.overtaken;
            default: return it.steps;
        }
    }

    public int run(int seed, int times) throws IllegalArgumentException {
        if (times < 0 || times > MOST_TIMES) {
            throw new IllegalArgumentException("times is not 0 .. 2000");
        }
        int entries = 0;
        int now = seed;
        // There always is a process: rule 7 of the language asks that a divisor is looked at all the same.
        for (int i = 0; i < times && hall.count > 0; i++) {
            now = now * 1103515245 + 12345;
            int p = (now >>> 16) % hall.count;
            hall.makeMove(p, program);
            // A move leads out of the inside first, so whoever is inside behind it has just entered.
            if (hall.processes[p].what == INSIDE) {
                entries++;
            }
        }
        return entries;
    }

    public int judge(int attempts) throws IllegalArgumentException {
        if (attempts < 1 || attempts > MOST_ATTEMPTS) {
            throw new IllegalArgumentException("attempts is not 1 .. 3");
        }
        return bench.decide(program, hall.count, attempts);
    }

    public int states() {
        return bench.found;
    }

    public int trail(int i) throws IndexOutOfBoundsException {
        if (i == NONE) {
            return bench.trailLength;
        }
        if (i < 0 || i >= bench.trailLength) {
            throw new IndexOutOfBoundsException("no such move");
        }
        return bench.trailMoves[i];
    }

    private void show(int exhibit, int processes) {
        exhibitShown = exhibit;
        program.load(instructionsOf(exhibit));
        hall.clear(processes);
    }

    private Contender processOf(int p) {
        if (p < 0 || p >= hall.count) {
            throw new IllegalArgumentException("no such process");
        }
        return hall.processes[p];
    }

    private static boolean operandFits(int kind, int operand, int value) {
        int limit = OPERAND_LIMITS[3 * kind + operand];
        return limit == 0 || (value >= 0 && value < limit);
    }

    private static int[] instructionsOf(int exhibit) {
        switch (exhibit) {
            case TICKETS_EXHIBIT: return TICKETS_METHOD;
            case TWO_EXHIBIT: return TWO_METHOD;
            case BAKERY_EXHIBIT: return BAKERY_METHOD;
            case LEVELS_EXHIBIT: return LEVELS_METHOD;
            default: return SWAP_METHOD;
        }
    }

    // Words and registers hold 0 .. 15: eight of them fit an int, which makes a state cheap to keep and compare.
    private static int nibble(int row, int i) {
        return (row >>> (4 * i)) & 15;
    }

    private static int withNibble(int row, int i, int value) {
        int shift = 4 * i;
        return (row & ~(15 << shift)) | ((value & 15) << shift);
    }

    private static final class Instruction {
        int kind;
        int a;
        int b;
        int c;

        void become(int newKind, int newA, int newB, int newC) {
            kind = newKind;
            a = newA;
            b = newB;
            c = newC;
        }
    }

    private static final class Program {
        final Instruction[] rows = new Instruction[INSTRUCTIONS];

        Program() {
            for (int i = 0; i < INSTRUCTIONS; i++) {
                rows[i] = new Instruction();
            }
        }

        void load(int[] source) {
            for (int i = 0; i < INSTRUCTIONS; i++) {
                int from = 4 * i;
                if (from + 3 < source.length) {
                    rows[i].become(source[from], source[from + 1], source[from + 2], source[from + 3]);
                } else {
                    rows[i].become(DONE, 0, 0, 0);
                }
            }
        }
    }

    private static final class Contender {
        int what;
        int place;
        int registers;
        boolean pastDoor;
        int overtaken;
        int steps;

        void forget() {
            end();
            overtaken = 0;
            steps = 0;
        }

        void begin(int number, int processes) {
            what = TRYING;
            place = 0;
            registers = withNibble(withNibble(0, 0, number), 1, processes);
            pastDoor = false;
            overtaken = 0;
            steps = 0;
        }

        void end() {
            what = IDLE;
            place = 0;
            registers = 0;
            pastDoor = false;
        }

        /** All of it that belongs to a state of the judge, in 33 bits: registers 24, place 6, what it is 3. */
        long packed() {
            return ((long) registers << 9) | (place << 3) | what;
        }

        void unpack(long state) {
            what = (int) (state & 7);
            place = (int) ((state >>> 3) & 63);
            registers = (int) ((state >>> 9) & 0xFFFFFF);
        }
    }

    /** The judge has one of its own beside the museum's, so that it changes nothing of the words and processes. */
    private static final class Hall {
        final Contender[] processes = new Contender[MOST_PROCESSES];
        int count;
        int words;

        Hall() {
            for (int p = 0; p < MOST_PROCESSES; p++) {
                processes[p] = new Contender();
            }
        }

        void clear(int newCount) {
            count = newCount;
            words = 0;
            for (int p = 0; p < MOST_PROCESSES; p++) {
                processes[p].forget();
            }
        }

        void makeMove(int p, Program program) {
            Contender it = processes[p];
            if (it.what == LOST) {
                return;
            }
            if (it.what == IDLE) {
                it.begin(p, count);
            } else if (it.what == INSIDE) {
                it.what = LEAVING;
            }
            advance(p, program);
        }

        void advance(int p, Program program) {
            Contender it = processes[p];
            it.steps++;
            for (int done = 0; done <= FREE_LIMIT && it.place < INSTRUCTIONS; done++) {
                Instruction now = program.rows[it.place];
                if (now.kind == DONE) {
                    it.end();
                    return;
                }
                if (now.kind == ENTER && it.what == TRYING) {
                    enter(p);
                    return;
                }
                if (now.kind >= READ && now.kind <= TRY) {
                    doShared(it, now);
                    return;
                }
                // A free instruction beyond the limit is come to, but not done: the place stays there.
                if (done < FREE_LIMIT) {
                    doFree(it, now);
                }
            }
            it.what = LOST;
        }

        private static void doFree(Contender it, Instruction now) {
            int own = it.registers;
            int next = it.place + 1;
            switch (now.kind) {
                case SET:
                    it.registers = withNibble(own, now.a, now.b);
                    break;
                case ADD:
                    it.registers = withNibble(own, now.a, nibble(own, now.a) + now.b);
                    break;
                case COPY:
                    it.registers = withNibble(own, now.a, nibble(own, now.b));
                    break;
                case LIKE:
                    next = nibble(own, now.a) == nibble(own, now.b) ? now.c : next;
                    break;
                case LESS:
                    next = nibble(own, now.a) < nibble(own, now.b) ? now.c : next;
                    break;
                case GO:
                    next = now.c;
                    break;
                case DOOR:
                    it.pastDoor = true;
                    it.overtaken = 0;
                    break;
                default:
                    // An ENTER while leaving does nothing.
                    break;
            }
            it.place = next;
        }

        private void enter(int entering) {
            Contender it = processes[entering];
            it.what = INSIDE;
            it.place++;
            it.pastDoor = false;
            for (int p = 0; p < count; p++) {
                Contender other = processes[p];
                // The one that enters is no more trying, so it does not overtake itself.
                if (other.what == TRYING && other.pastDoor) {
                    other.overtaken++;
                }
            }
        }

        private void doShared(Contender it, Instruction now) {
            // The word's number and the register's value are taken first: register c may be register a itself.
            int held = it.registers;
            int own = nibble(held, now.a);
            boolean indexed = now.kind <= SWAP && now.c != NO_REGISTER;
            int at = indexed ? (now.b + nibble(held, now.c)) % WORDS : now.b;
            int word = nibble(words, at);
            switch (now.kind) {
                case READ:
                    it.registers = withNibble(held, now.a, word);
                    break;
                case WRITE:
                    words = withNibble(words, at, own);
                    break;
                case SWAP:
                    words = withNibble(words, at, own);
                    it.registers = withNibble(held, now.a, word);
                    break;
                case FETCH:
                    words = withNibble(words, at, word + now.c);
                    it.registers = withNibble(held, now.a, word);
                    break;
                default:
                    // TRY, the only kind that is left of those that are shared.
                    words = word == own ? withNibble(words, at, nibble(held, now.c)) : words;
                    it.registers = withNibble(held, now.a, word == own ? 1 : 0);
                    break;
            }
            it.place++;
        }
    }

    /**
     * Goes through all orders on a hall of its own. A move is known by 3 * state + process, the
     * state being the one that it is made from.
     */
    private static final class Judge {
        private static final int MOST_STATES = 3000;
        private static final int MOST_MOVES = 9000;
        /** A power of two far above the states, so that a search in the table stays short. */
        private static final int SLOTS = 8192;
        private static final int SLOT_BITS = 13;
        private static final long MIX = 0x9E3779B97F4A7C15L;

        private static final int GOOD = 0;
        private static final int TWO_INSIDE = 1;
        private static final int STUCK = 2;
        private static final int TOO_MANY = 3;

        final int[] trailMoves = new int[MOST_STATES];
        int trailLength;
        int found;

        private final Hall hall = new Hall();
        private final int[] left = new int[MOST_PROCESSES];
        private final int[] wordsOf = new int[MOST_STATES];
        private final long[] processesOf = new long[MOST_MOVES];
        private final int[] slots = new int[SLOTS];
        private final int[] firstMoveTo = new int[MOST_STATES];
        private final int[] latestMoveTo = new int[MOST_STATES];
        private final int[] moveBefore = new int[MOST_MOVES];
        private final boolean[] canEnd = new boolean[MOST_STATES];
        private final int[] ending = new int[MOST_STATES];
        private int endings;

        int decide(Program program, int processes, int attempts) {
            start(processes, attempts);
            int verdict = GOOD;
            for (int s = 0; s < found && s < MOST_STATES && verdict == GOOD; s++) {
                for (int p = 0; p < processes && verdict == GOOD; p++) {
                    verdict = follow(s, p, program);
                }
            }
            if (verdict == TWO_INSIDE) {
                keepTrail();
            } else if (verdict == GOOD && !allCanEnd()) {
                verdict = STUCK;
            }
            return verdict;
        }

        private void start(int processes, int attempts) {
            found = 0;
            trailLength = 0;
            Arrays.fill(slots, NONE);
            hall.clear(processes);
            Arrays.fill(left, attempts);
            addState(slotOfHall(), NONE);
        }

        /** Makes the move of process p from state s: the verdict if it ends there, otherwise GOOD. */
        private int follow(int s, int p, Program program) {
            restore(s);
            int was = hall.processes[p].what;
            if (was == LOST || (was == IDLE && left[p] == 0)) {
                return GOOD;
            }
            if (was == IDLE) {
                left[p]--;
            }
            hall.makeMove(p, program);
            int move = MOST_PROCESSES * s + p;
            int slot = slotOfHall();
            if (slots[slot] != NONE) {
                noteMove(move, slots[slot]);
                return GOOD;
            }
            if (found == MOST_STATES) {
                return TOO_MANY;
            }
            addState(slot, move);
            return insideNow() >= 2 ? TWO_INSIDE : GOOD;
        }

        private void restore(int s) {
            hall.words = wordsOf[s];
            for (int p = 0; p < hall.count; p++) {
                long packed = processesOf[MOST_PROCESSES * s + p];
                left[p] = (int) (packed & 3);
                hall.processes[p].unpack(packed >>> 2);
            }
        }

        private long packedProcess(int p) {
            return (hall.processes[p].packed() << 2) | left[p];
        }

        /** The slot of the state that the hall is in, or the free one where it belongs. */
        private int slotOfHall() {
            long mixed = hall.words;
            for (int p = 0; p < hall.count; p++) {
                mixed = (mixed ^ (mixed >>> 32)) * MIX + packedProcess(p);
            }
            int slot = (int) (((mixed ^ (mixed >>> 32)) * MIX) >>> (64 - SLOT_BITS));
            for (int tries = 0; tries < SLOTS; tries++) {
                if (slots[slot] == NONE || isHall(slots[slot])) {
                    break;
                }
                slot = (slot + 1) % SLOTS;
            }
            return slot;
        }

        private boolean isHall(int s) {
            boolean same = wordsOf[s] == hall.words;
            for (int p = 0; p < hall.count && same; p++) {
                same = processesOf[MOST_PROCESSES * s + p] == packedProcess(p);
            }
            return same;
        }

        private void addState(int slot, int move) {
            int s = found;
            found++;
            slots[slot] = s;
            wordsOf[s] = hall.words;
            for (int p = 0; p < hall.count; p++) {
                processesOf[MOST_PROCESSES * s + p] = packedProcess(p);
            }
            firstMoveTo[s] = move;
            latestMoveTo[s] = NONE;
            if (move != NONE) {
                noteMove(move, s);
            }
        }

        private void noteMove(int move, int to) {
            moveBefore[move] = latestMoveTo[to];
            latestMoveTo[to] = move;
        }

        private int insideNow() {
            int inside = 0;
            for (int p = 0; p < hall.count; p++) {
                if (hall.processes[p].what == INSIDE) {
                    inside++;
                }
            }
            return inside;
        }

        private void keepTrail() {
            int length = 0;
            for (int s = found - 1; s > 0 && length < MOST_STATES; s = firstMoveTo[s] / MOST_PROCESSES) {
                trailMoves[length] = firstMoveTo[s] % MOST_PROCESSES;
                length++;
            }
            for (int i = 0; i < length / 2; i++) {
                int swapped = trailMoves[i];
                trailMoves[i] = trailMoves[length - 1 - i];
                trailMoves[length - 1 - i] = swapped;
            }
            trailLength = length;
        }

        /** Goes back from the states in which all is over: those that are met can end. */
        private boolean allCanEnd() {
            endings = 0;
            for (int s = 0; s < found; s++) {
                canEnd[s] = false;
                if (isOver(s)) {
                    noteEnding(s);
                }
            }
            for (int i = 0; i < endings && i < MOST_STATES; i++) {
                int move = latestMoveTo[ending[i]];
                for (int n = 0; n < MOST_MOVES && move != NONE; n++) {
                    noteEnding(move / MOST_PROCESSES);
                    move = moveBefore[move];
                }
            }
            return endings == found;
        }

        private void noteEnding(int s) {
            if (!canEnd[s]) {
                canEnd[s] = true;
                ending[endings] = s;
                endings++;
            }
        }

        private boolean isOver(int s) {
            long rest = 0;
            for (int p = 0; p < hall.count; p++) {
                // An idle process without attempts left packs to 0, and no other does.
                rest |= processesOf[MOST_PROCESSES * s + p];
            }
            return rest == 0;
        }
    }
}
