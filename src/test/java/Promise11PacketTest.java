public final class Promise11PacketTest {
    public static void main(String[] args) {
        Checks checks = new Checks();
        tellsOfSnapshots(checks);
        tellsOfReports(checks);
        refusesWrongInputs(checks);
        checks.end();
    }

    private static void row(Checks checks, DeltaPlayfield x, int k, int... want) {
        for (int which = 0; which < 6; which++) {
            checks.due("packet(" + k + ", " + which + ")", want[which], x.packet(k, which));
        }
    }

    private static void tellsOfSnapshots(Checks checks) {
        DeltaPlayfield x = new DeltaPlayfield();
        x.input(0, 1);
        x.input(0, 1);
        Checks.acknowledgedTick(x, 0);
        x.tick();
        // Client 0 sees itself, 1, 2 and at the base also 3 at 7, now at 8 and out of sight.
        row(checks, x, 0, 0, 1, 24 + 4 + 1 + 1 + 3 + 4, 2, 1, 1);
        row(checks, x, 1, 1, 1, 21 + 3 * 9 + 5, 2, 0, 0);
        row(checks, x, 2, 2, 1, 21 + 5 * 9 + 3, 2, 0, 0);
        x.tick();
        row(checks, x, 3, 0, 1, 24 + 11 + 1 + 1 + 3 + 4, 3, 1, 2);
    }

    private static void tellsOfReports(Checks checks) {
        DeltaPlayfield x = new DeltaPlayfield();
        for (int n = 0; n < 6; n++) {
            x.input(1, 1);
        }
        Checks.acknowledgedTick(x, 1);
        Checks.acknowledgedTick(x, 1);
        Checks.acknowledgedTick(x, 1);
        checks.due("SEEN", 2, x.count(1, 1));
        x.report(0);
        x.report(1);
        row(checks, x, 0, 0, 0, 23, 0, 0, 0);
        row(checks, x, 1, 1, 0, 35, 3, 4, 2);
        Checks.loseAll(x);
        Checks.acknowledgedTick(x, 1);
        x.report(1);
        x.tick();
        x.deliver(2);
        x.report(1);
        row(checks, x, 0, 1, 0, 32, 4, 3, 3);
        row(checks, x, 3, 1, 0, 29, 5, 2, 4);
        checks.due("acknowledged before they get there", 4, x.count(1, 5));
    }

    private static void refusesWrongInputs(Checks checks) {
        DeltaPlayfield x = new DeltaPlayfield();
        checks.due("packet(0, 0) of nothing", -1, x.packet(0, 0));
        x.tick();
        x.report(0);
        String before = Checks.stateOf(x);
        for (int which = 0; which < 6; which++) {
            checks.due("packet(4, " + which + ")", -1, x.packet(4, which));
            checks.due("packet(-1, " + which + ")", -1, x.packet(-1, which));
        }
        for (int k = 0; k < 4; k++) {
            checks.due("packet(" + k + ", -1)", -1, x.packet(k, -1));
            checks.due("packet(" + k + ", 6)", -1, x.packet(k, 6));
        }
        for (int far : Checks.FAR) {
            checks.due("packet(" + far + ", 0)", -1, x.packet(far, 0));
            checks.due("packet(0, " + far + ")", -1, x.packet(0, far));
        }
        checks.same("packet", before, x);
    }
}
