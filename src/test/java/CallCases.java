/** Terms: calls that throw, and the constant. */
final class CallCases {
    private static final Class<IllegalArgumentException> ARGUMENT = IllegalArgumentException.class;
    private static final Class<IllegalStateException> STATE = IllegalStateException.class;
    private static final Class<IndexOutOfBoundsException> INDEX = IndexOutOfBoundsException.class;

    private interface Deed {
        void doTo(LockMuseum x);
    }

    private CallCases() {
    }

    static void all() {
        Check.each(CallCases::refusedCallChangesNothing, CallCases::firstNamedIsThrown,
            CallCases::processThatIsThereNoMore, CallCases::none);
    }

    /** Process 0 is lost past its door, 1 tries and was overtaken, 2 is inside or leaves; a trail was found. */
    private static LockMuseum busy(boolean leaves) {
        LockMuseum x = Rows.museum(3, Rows.like(0, 5, 8), Rows.read(2, 0, 6), Rows.door(), Rows.fetch(2, 1, 1),
            Rows.enter(), Rows.write(1, 3, 0), Rows.fetch(4, 5, 3), Rows.done(), Rows.door(), Rows.go(9));
        x.judge(1);
        Rows.begin(x, 0, 1);
        Rows.begin(x, 1, 2);
        Rows.begin(x, 2, 3);
        if (leaves) {
            x.leave(2);
            x.step(2);
        }
        return x;
    }

    private static void refusedCallChangesNothing() {
        Document.says("Terms", "A call that throws changes nothing;");
        for (int p : new int[] {-1, 3, Integer.MIN_VALUE, Integer.MAX_VALUE}) {
            nothingChanges("want(" + p + ")", ARGUMENT, x -> x.want(p));
            nothingChanges("step(" + p + ")", ARGUMENT, x -> x.step(p));
            nothingChanges("leave(" + p + ")", ARGUMENT, x -> x.leave(p));
            nothingChanges("register(" + p + ", 0)", ARGUMENT, x -> x.register(p, 0));
            nothingChanges("about(" + p + ", 0)", ARGUMENT, x -> x.about(p, 0));
            nothingChanges("exhibit(1, " + (p + 1) + ")", ARGUMENT, x -> x.exhibit(1, p + 1));
            nothingChanges("judge(" + (p + 1) + ")", ARGUMENT, x -> x.judge(p + 1));
        }
        nothingChanges("exhibit(0, 2)", ARGUMENT, x -> x.exhibit(0, 2));
        nothingChanges("exhibit(6, 2)", ARGUMENT, x -> x.exhibit(6, 2));
        nothingChanges("exhibit(3, 3)", ARGUMENT, x -> x.exhibit(3, 3));
        nothingChanges("change(40, 13, 0, 0, 0)", ARGUMENT, x -> x.change(40, 13, 0, 0, 0));
        nothingChanges("change(1, 14, 0, 0, 0)", ARGUMENT, x -> x.change(1, 14, 0, 0, 0));
        nothingChanges("change(1, 0, 6, 0, 0)", ARGUMENT, x -> x.change(1, 0, 6, 0, 0));
        nothingChanges("change(1, 8, 2, 8, 6)", ARGUMENT, x -> x.change(1, 8, 2, 8, 6));
        nothingChanges("change(1, 9, 2, 1, 7)", ARGUMENT, x -> x.change(1, 9, 2, 1, 7));
        nothingChanges("change(3, 10, 2, 1, 16)", ARGUMENT, x -> x.change(3, 10, 2, 1, 16));
        nothingChanges("change(0, 5, 0, 0, 40)", ARGUMENT, x -> x.change(0, 5, 0, 0, 40));
        for (int p = 0; p < 3; p++) {
            int one = p;
            nothingChanges("want(" + p + ")", STATE, x -> x.want(one));
        }
        nothingChanges("step(0)", STATE, x -> x.step(0));
        nothingChanges("leave(0)", STATE, x -> x.leave(0));
        nothingChanges("leave(1)", STATE, x -> x.leave(1));
        nothingChanges("word(8)", INDEX, x -> x.word(8));
        nothingChanges("register(1, 6)", INDEX, x -> x.register(1, 6));
        nothingChanges("about(1, 5)", ARGUMENT, x -> x.about(1, 5));
        nothingChanges("run(1, 2001)", ARGUMENT, x -> x.run(1, 2001));
        nothingChanges("run(1, -1)", ARGUMENT, x -> x.run(1, -1));
        nothingChanges("trail(-2)", INDEX, x -> x.trail(-2));
        nothingChanges("trail(99)", INDEX, x -> x.trail(99));
    }

    /** The twin isn't called; what both tell, and what they do next, must stay the same. */
    private static void nothingChanges(String call, Class<? extends RuntimeException> due, Deed deed) {
        for (boolean leaves : new boolean[] {false, true}) {
            LockMuseum x = busy(leaves);
            LockMuseum twin = busy(leaves);
            Check.refused(call, due, () -> deed.doTo(x));
            Check.same("behind " + call, Check.picture(x, 3), Check.picture(twin, 3));
            Check.due(call + ", then run(7, 60)", x.run(7, 60), twin.run(7, 60));
            Check.due(call + ", then judge(2)", x.judge(2), twin.judge(2));
            Check.same(call + ", then run and judge", Check.picture(x, 3), Check.picture(twin, 3));
            x.mend();
            twin.mend();
            Check.due(call + ", then mend and judge(1)", x.judge(1) * 10000 + x.states(),
                twin.judge(1) * 10000 + twin.states());
        }
    }

    private static void firstNamedIsThrown() {
        Document.says("Terms", "of several exceptions the one that it names first is thrown.");
        for (int p : new int[] {-1, 2, Integer.MIN_VALUE, Integer.MAX_VALUE}) {
            for (int r : new int[] {-1, 6, Integer.MIN_VALUE, Integer.MAX_VALUE}) {
                LockMuseum x = new LockMuseum();
                Check.refused("register(" + p + ", " + r + ")", ARGUMENT, () -> x.register(p, r));
            }
        }
        LockMuseum x = new LockMuseum();
        Check.refused("register(1, 6)", INDEX, () -> x.register(1, 6));
    }

    private static void processThatIsThereNoMore() {
        Document.says("Terms", "of several exceptions the one that it names first is thrown.");
        LockMuseum x = busy(false);
        x.exhibit(1, 2);
        // Process 2, were it still there, would be neither trying nor inside, and process 0 would be.
        Rows.begin(x, 0, 2);
        Check.refused("step(2)", ARGUMENT, () -> x.step(2));
        Check.refused("leave(2)", ARGUMENT, () -> x.leave(2));
        Check.refused("want(2)", ARGUMENT, () -> x.want(2));
        Check.refused("register(2, 6)", ARGUMENT, () -> x.register(2, 6));
    }

    private static void none() {
        Document.says("Terms", "The constants: `NONE = -1`: There is none.");
        Check.due("NONE", LockMuseum.NONE, -1);
        Check.due("trail(NONE)", new LockMuseum().trail(LockMuseum.NONE), 0);
    }
}
