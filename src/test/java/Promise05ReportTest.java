public final class Promise05ReportTest {
    public static void main(String[] args) {
        Checks checks = new Checks();
        tellsAtMostFourCommands(checks);
        tellsWhatWasWhenItWasSent(checks);
        goesOnFromSeen(checks);
        refusesWrongClients(checks);
        isLostWhenTheFlightIsFull(checks);
        checks.end();
    }

    private static void tellsAtMostFourCommands(Checks checks) {
        for (int c = 0; c < 3; c++) {
            DeltaPlayfield x = new DeltaPlayfield();
            for (int n = 0; n <= 6; n++) {
                checks.yes("report(" + c + ")", x.report(c));
                int told = Math.min(n, 4);
                checks.due("commands of " + n, told, x.packet(n, 4));
                checks.due("size of " + n, 23 + 3 * told, x.packet(n, 2));
                checks.due("client", c, x.packet(n, 0));
                checks.due("kind", 0, x.packet(n, 1));
                checks.due("NEWEST", 0, x.packet(n, 3));
                checks.due("SEEN", 0, x.packet(n, 5));
                x.input(c, 1);
            }
            checks.due("nothing is held before it gets there", 0, x.count(c, 3));
        }
    }

    private static void tellsWhatWasWhenItWasSent(Checks checks) {
        DeltaPlayfield x = new DeltaPlayfield();
        x.input(0, 1);
        x.report(0);
        x.input(0, 1);
        x.tick();
        x.deliver(1);
        checks.due("NEWEST of the client", 1, x.count(0, 4));
        checks.due("NEWEST in the report", 0, x.packet(0, 3));
        checks.due("commands in the report", 1, x.packet(0, 4));
        x.deliver(0);
        checks.due("held by the report", 1, x.count(0, 3));
        checks.due("acknowledged by the report", 0, x.count(0, 5));
    }

    private static void goesOnFromSeen(Checks checks) {
        DeltaPlayfield x = new DeltaPlayfield();
        int[] commands = {1, 0, 1, 0, 0, 1};
        for (int command : commands) {
            x.input(0, command);
        }
        Checks.sendReport(x, 0);
        x.tick();
        Checks.loseAll(x);
        x.tick();
        x.deliver(0);
        Checks.loseAll(x);
        x.report(0);
        checks.due("NEWEST in the report", 2, x.packet(0, 3));
        checks.due("SEEN in the report", 2, x.packet(0, 5));
        checks.due("commands in the report", 4, x.packet(0, 4));
        x.deliver(0);
        checks.due("held", 4, x.count(0, 3));
        int[] reached = {1 + 2 * 16, 2 + 2 * 16, 3 + 2 * 16, 3 + 3 * 16};
        for (int at : reached) {
            Checks.quietTick(x);
            checks.due("position(0)", at, x.position(0));
        }
    }

    private static void refusesWrongClients(Checks checks) {
        DeltaPlayfield x = new DeltaPlayfield();
        String before = Checks.stateOf(x);
        checks.no("report(-1)", x.report(-1));
        checks.no("report(3)", x.report(3));
        for (int far : Checks.FAR) {
            checks.no("report(" + far + ")", x.report(far));
        }
        checks.same("a refused report", before, x);
    }

    private static void isLostWhenTheFlightIsFull(Checks checks) {
        DeltaPlayfield x = new DeltaPlayfield();
        Checks.fill(x, 24);
        String before = Checks.stateOf(x);
        checks.yes("report to a full flight", x.report(0));
        checks.same("a lost report", before, x);
        checks.no("report of no client to a full flight", x.report(3));
    }
}
