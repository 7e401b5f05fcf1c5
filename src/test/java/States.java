/** Runs of calls that bring a new object into the states from which the edges are looked at. */
final class States {
    /** Some calls on an object. */
    interface Run {
        void on(DeltaPlayfield x);
    }

    static final String[] NAMES = {"new", "set up", "busy", "full"};
    static final Run[] RUNS = {States::fresh, States::setUp, States::busy, States::full};

    private States() {
    }

    static DeltaPlayfield after(Run run) {
        DeltaPlayfield x = new DeltaPlayfield();
        run.on(x);
        return x;
    }

    static void fresh(DeltaPlayfield x) {
    }

    /** Before tick 1, with walls and drifters that go in all directions, commands held and reports in flight. */
    static void setUp(DeltaPlayfield x) {
        x.wall(7, 5);
        x.wall(3, 9);
        x.place(0, 5, 5, 0);
        x.place(1, 6, 6, 0);
        x.place(3, 6, 5, 0);
        x.place(4, 5, 8, 1);
        x.place(5, 9, 7, 2);
        x.place(6, 4, 4, 3);
        for (int command = 0; command < 5; command++) {
            x.input(0, command);
            x.input(1, 4 - command);
        }
        x.report(0);
        x.deliver(0);
        x.report(1);
        x.input(2, 1);
        x.report(2);
    }

    /** In the midst of things: snapshots taken and acknowledged, others in flight, some of them too old. */
    static void busy(DeltaPlayfield x) {
        setUp(x);
        x.tick();
        x.tick();
        x.deliver(5);
        x.report(0);
        x.deliver(x.flight() - 1);
        x.tick();
        x.copy(2);
        x.input(0, 1);
        x.input(2, 0);
        x.report(0);
        x.report(2);
        x.deliver(3);
    }

    static void full(DeltaPlayfield x) {
        busy(x);
        for (int i = 0; i < 4; i++) {
            x.tick();
        }
    }

    /** Client 0 in one corner, all others in the far one, but for drifter 3. */
    static DeltaPlayfield lonely(int x3, int y3, int direction) {
        DeltaPlayfield x = new DeltaPlayfield();
        for (int e = 1; e < 8; e++) {
            x.place(e, 14, 14, 1);
        }
        x.place(3, x3, y3, direction);
        return x;
    }

    /** With a snapshot of client 0 taken in which so many commands of it are done. */
    static DeltaPlayfield withSeen(int seen) {
        DeltaPlayfield x = new DeltaPlayfield();
        for (int n = 0; n < seen; n++) {
            x.input(0, 4);
            Checks.acknowledgedTick(x, 0);
            Checks.acknowledgedTick(x, 0);
        }
        return x;
    }
}
