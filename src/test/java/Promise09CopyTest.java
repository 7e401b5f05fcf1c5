public final class Promise09CopyTest {
    public static void main(String[] args) {
        Checks checks = new Checks();
        copiesToTheEnd(checks);
        aCopyIsAPacketOfItsOwn(checks);
        aCopyTellsTheSamePlaces(checks);
        refusesWhatIsNoPlace(checks);
        refusesWhenTheFlightIsFull(checks);
        checks.end();
    }

    private static void copiesToTheEnd(Checks checks) {
        DeltaPlayfield x = new DeltaPlayfield();
        x.input(2, 1);
        x.input(2, 1);
        Checks.sendReport(x, 2);
        Checks.acknowledgedTick(x, 2);
        x.report(2);
        x.tick();
        for (int k = 0; k < 4; k++) {
            checks.yes("copy(" + k + ")", x.copy(k));
            checks.due("flight()", 5 + k, x.flight());
            for (int which = 0; which < 6; which++) {
                checks.due("packet of the copy, " + which, x.packet(k, which), x.packet(4 + k, which));
            }
        }
        checks.yes("copy of a copy", x.copy(7));
        checks.due("client of a copy of a copy", 2, x.packet(8, 0));
    }

    private static void aCopyIsAPacketOfItsOwn(Checks checks) {
        DeltaPlayfield x = new DeltaPlayfield();
        x.input(0, 1);
        x.input(0, 0);
        x.report(0);
        x.copy(0);
        x.lose(0);
        x.report(1);
        checks.due("commands in the copy", 2, x.packet(0, 4));
        checks.due("deliver of the copy", 1, x.deliver(0));
        checks.due("held by the copy", 2, x.count(0, 3));
        x.tick();
        checks.due("position(0)", 16, x.position(0));
        x.tick();
        checks.due("position(0)", 17, x.position(0));
    }

    private static void aCopyTellsTheSamePlaces(Checks checks) {
        DeltaPlayfield x = new DeltaPlayfield();
        x.tick();
        x.copy(0);
        x.tick();
        checks.due("deliver of the copy", 1, x.deliver(3));
        checks.due("view(0, 2)", 4, x.view(0, 2));
        checks.due("view(0, 3)", 7, x.view(0, 3));
        checks.due("view(0, 4)", -1, x.view(0, 4));
    }

    private static void refusesWhatIsNoPlace(Checks checks) {
        DeltaPlayfield x = new DeltaPlayfield();
        checks.no("copy(0) of nothing", x.copy(0));
        x.tick();
        String before = Checks.stateOf(x);
        checks.no("copy(3)", x.copy(3));
        checks.no("copy(-1)", x.copy(-1));
        for (int far : Checks.FAR) {
            checks.no("copy(" + far + ")", x.copy(far));
        }
        checks.same("a refused copy", before, x);
    }

    private static void refusesWhenTheFlightIsFull(Checks checks) {
        DeltaPlayfield x = new DeltaPlayfield();
        Checks.fill(x, 23);
        checks.yes("copy as the 24th", x.copy(0));
        String before = Checks.stateOf(x);
        checks.no("copy as the 25th", x.copy(0));
        checks.no("copy of the last as the 25th", x.copy(23));
        checks.same("a refused copy", before, x);
    }
}
