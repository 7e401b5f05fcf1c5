public final class Promise07DeliverTest {
    public static void main(String[] args) {
        Checks checks = new Checks();
        takesNewerSnapshotsAlone(checks);
        takesOutOfTheMiddle(checks);
        holdsWhatIsNotDone(checks);
        keepsTheGreatestAcknowledged(checks);
        refusesWhatIsNoPlace(checks);
        checks.end();
    }

    private static void takesNewerSnapshotsAlone(Checks checks) {
        DeltaPlayfield x = new DeltaPlayfield();
        x.place(3, 4, 1, 0);
        x.place(4, 5, 1, 0);
        x.tick();
        x.tick();
        x.tick();
        x.copy(3);
        checks.due("deliver of tick 2", 1, x.deliver(3));
        checks.due("NEWEST", 2, x.count(0, 4));
        checks.due("view(0, 3)", 22, x.view(0, 3));
        checks.due("deliver of tick 1", 0, x.deliver(0));
        checks.due("a dropped one is out of flight", 8, x.flight());
        checks.due("NEWEST", 2, x.count(0, 4));
        checks.due("view(0, 3)", 22, x.view(0, 3));
        checks.due("deliver of tick 2 again", 0, x.deliver(7));
        checks.due("deliver of tick 3", 1, x.deliver(4));
        checks.due("NEWEST", 3, x.count(0, 4));
        checks.due("view(0, 3)", 23, x.view(0, 3));
        checks.due("view(0, 4), who went out of sight", -1, x.view(0, 4));
        checks.due("NEWEST of client 1", 0, x.count(1, 4));
        checks.due("deliver to client 1", 1, x.deliver(0));
        checks.due("NEWEST of client 1", 1, x.count(1, 4));
    }

    private static void takesOutOfTheMiddle(Checks checks) {
        DeltaPlayfield x = new DeltaPlayfield();
        x.report(0);
        x.report(1);
        x.report(2);
        x.report(0);
        checks.due("deliver(1)", 1, x.deliver(1));
        checks.due("flight()", 3, x.flight());
        checks.due("packet(0, 0)", 0, x.packet(0, 0));
        checks.due("packet(1, 0)", 2, x.packet(1, 0));
        checks.due("packet(2, 0)", 0, x.packet(2, 0));
        checks.due("packet(3, 0)", -1, x.packet(3, 0));
    }

    private static void holdsWhatIsNotDone(Checks checks) {
        DeltaPlayfield x = new DeltaPlayfield();
        for (int n = 0; n < 4; n++) {
            x.input(0, 1);
        }
        x.report(0);
        x.copy(0);
        x.copy(0);
        checks.due("deliver of a report", 1, x.deliver(0));
        checks.due("held", 4, x.count(0, 3));
        x.tick();
        x.tick();
        x.tick();
        checks.due("held", 1, x.count(0, 3));
        checks.due("deliver of a report again", 1, x.deliver(0));
        checks.due("held", 1, x.count(0, 3));
        x.tick();
        checks.due("deliver of a report when all is done", 1, x.deliver(0));
        checks.due("held", 0, x.count(0, 3));
        checks.due("DONE", 4, x.count(0, 2));
        checks.due("held of client 1", 0, x.count(1, 3));
        x.tick();
        checks.due("position(0)", 64, x.position(0));
    }

    private static void keepsTheGreatestAcknowledged(Checks checks) {
        DeltaPlayfield x = new DeltaPlayfield();
        x.report(0);
        x.tick();
        x.deliver(1);
        x.report(0);
        x.tick();
        x.deliver(4);
        x.report(0);
        checks.due("NEWEST of the first report", 0, x.packet(0, 3));
        checks.due("NEWEST of the second report", 1, x.packet(3, 3));
        checks.due("NEWEST of the third report", 2, x.packet(6, 3));
        x.deliver(0);
        checks.due("acknowledged by a report before any snapshot", 0, x.count(0, 5));
        x.deliver(5);
        checks.due("acknowledged", 2, x.count(0, 5));
        checks.due("deliver of the older report", 1, x.deliver(2));
        checks.due("acknowledged", 2, x.count(0, 5));
        checks.due("acknowledged by client 1", 0, x.count(1, 5));
    }

    private static void refusesWhatIsNoPlace(Checks checks) {
        DeltaPlayfield x = new DeltaPlayfield();
        checks.due("deliver(0) of nothing", -1, x.deliver(0));
        x.tick();
        String before = Checks.stateOf(x);
        checks.due("deliver(3)", -1, x.deliver(3));
        checks.due("deliver(-1)", -1, x.deliver(-1));
        for (int far : Checks.FAR) {
            checks.due("deliver(" + far + ")", -1, x.deliver(far));
        }
        checks.same("a refused deliver", before, x);
        checks.due("deliver(2)", 1, x.deliver(2));
    }
}
