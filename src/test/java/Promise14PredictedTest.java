public final class Promise14PredictedTest {
    public static void main(String[] args) {
        Checks checks = new Checks();
        startsWherePlayerStood(checks);
        staysThereUntilASnapshotIsTaken(checks);
        goesOnFromTheSnapshot(checks);
        knowsTheSnapshotAlone(checks);
        isBlockedLikeAPlayer(checks);
        doesTwelveCommands(checks);
        refusesWrongClients(checks);
        checks.end();
    }

    private static void startsWherePlayerStood(Checks checks) {
        DeltaPlayfield x = new DeltaPlayfield();
        x.input(0, 1);
        checks.due("predicted(0)", 16, x.predicted(0));
        x.place(0, 8, 8, 0);
        checks.due("predicted(0) after a place", 8 + 9 * 16, x.predicted(0));
        x.wall(8, 9);
        checks.due("predicted(0) after a wall", 8 + 8 * 16, x.predicted(0));
        checks.due("predicted(1)", 2, x.predicted(1));
    }

    private static void staysThereUntilASnapshotIsTaken(Checks checks) {
        DeltaPlayfield x = new DeltaPlayfield();
        x.input(0, 1);
        x.input(0, 1);
        Checks.sendReport(x, 0);
        x.tick();
        x.tick();
        checks.due("position(0)", 32, x.position(0));
        checks.due("predicted(0) before a snapshot", 32, x.predicted(0));
        x.input(0, 0);
        checks.due("predicted(0) before a snapshot", 33, x.predicted(0));
    }

    private static void goesOnFromTheSnapshot(Checks checks) {
        DeltaPlayfield x = new DeltaPlayfield();
        x.place(1, 5, 5, 0);
        int[] commands = {0, 1, 2, 3, 4, 0, 0};
        int[] reached = {0x56, 0x66, 0x65, 0x55, 0x55, 0x56, 0x57};
        for (int i = 0; i < commands.length; i++) {
            x.input(1, commands[i]);
            checks.due("predicted(1) after command " + (i + 1), reached[i], x.predicted(1));
        }
        Checks.sendReport(x, 1);
        for (int t = 1; t <= 4; t++) {
            x.tick();
            x.deliver(1);
            Checks.loseAll(x);
            checks.due("view(1, 1)", reached[t - 1], x.view(1, 1));
            checks.due("SEEN", t, x.count(1, 1));
            checks.due("predicted(1)", 0x57, x.predicted(1));
        }
    }

    private static void knowsTheSnapshotAlone(Checks checks) {
        DeltaPlayfield x = new DeltaPlayfield();
        x.input(0, 1);
        x.input(0, 1);
        x.input(0, 1);
        Checks.sendReport(x, 0);
        x.tick();
        x.deliver(0);
        x.tick();
        x.tick();
        checks.due("position(0)", 48, x.position(0));
        checks.due("predicted(0) while the server is ahead", 48, x.predicted(0));
        x.input(0, 0);
        checks.due("predicted(0) while the server is ahead", 49, x.predicted(0));
    }

    private static void isBlockedLikeAPlayer(Checks checks) {
        DeltaPlayfield x = new DeltaPlayfield();
        x.place(0, 15, 15, 0);
        x.place(1, 0, 14, 0);
        x.input(0, 0);
        x.input(0, 1);
        checks.due("predicted(0) in the corner", 255, x.predicted(0));
        x.input(1, 2);
        checks.due("predicted(1) at the edge", 224, x.predicted(1));
        x.input(0, 3);
        checks.due("predicted(0) upwards", 239, x.predicted(0));
        x.wall(14, 14);
        x.input(0, 2);
        checks.due("predicted(0) at the wall", 239, x.predicted(0));
    }

    private static void doesTwelveCommands(Checks checks) {
        DeltaPlayfield x = new DeltaPlayfield();
        int done = 0;
        int issued = 0;
        for (int t = 1; t <= 40; t++) {
            while (x.input(0, issued % 24 < 12 ? 0 : 2) != DeltaPlayfield.NONE) {
                issued++;
            }
            checks.due("ISSUED", done + 12, issued);
            int into = issued % 24;
            checks.due("predicted(0) after " + issued, into <= 12 ? into : 24 - into, x.predicted(0));
            Checks.sendReport(x, 0);
            x.tick();
            x.deliver(0);
            Checks.loseAll(x);
            done++;
        }
    }

    private static void refusesWrongClients(Checks checks) {
        DeltaPlayfield x = new DeltaPlayfield();
        checks.due("predicted(-1)", -1, x.predicted(-1));
        checks.due("predicted(3)", -1, x.predicted(3));
        for (int far : Checks.FAR) {
            checks.due("predicted(" + far + ")", -1, x.predicted(far));
        }
    }
}
