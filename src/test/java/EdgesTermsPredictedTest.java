/** Edges of the sentence on the predicted place, under "Terms". */
public final class EdgesTermsPredictedTest {
    public static void main(String[] args) {
        Checks checks = new Checks();
        startsWhereThePlayerStoodBeforeTick1(checks);
        startsFromTheSnapshotOnceOneWasTaken(checks);
        doesWhatIsDoneButNotSeen(checks);
        isTheSnapshotsPlaceWhenNoCommandIsLeft(checks);
        doesTwelveCommandsAtMost(checks);
        isBlockedAtTheRimAndByWalls(checks);
        aDroppedSnapshotDoesNotCount(checks);
        eachClientHasItsOwn(checks);
        checks.end();
    }

    /** "(where it stood before tick 1, if there is none)" */
    private static void startsWhereThePlayerStoodBeforeTick1(Checks checks) {
        DeltaPlayfield x = new DeltaPlayfield();
        checks.due("predicted(0) of a new object", 0, x.predicted(0));
        x.place(0, 4, 4, 0);
        checks.due("predicted(0) of a placed player", 68, x.predicted(0));
        x.place(0, 5, 5, 0);
        checks.due("predicted(0) of a player placed again", 85, x.predicted(0));
        x.input(0, 0);
        Checks.sendReport(x, 0);
        for (int t = 1; t <= 8; t++) {
            x.tick();
            checks.due("position(0)", 86, x.position(0));
            checks.due("predicted(0) at tick " + t + ", no snapshot taken", 86, x.predicted(0));
        }
        x.input(0, 0);
        checks.due("predicted(0) after a command more", 87, x.predicted(0));
        x.deliver(1);
        x.deliver(1);
        checks.due("predicted(0) when the others took theirs", 87, x.predicted(0));
    }

    private static void startsFromTheSnapshotOnceOneWasTaken(Checks checks) {
        DeltaPlayfield x = new DeltaPlayfield();
        x.place(0, 5, 5, 0);
        for (int n = 0; n < 3; n++) {
            x.input(0, 0);
        }
        Checks.sendReport(x, 0);
        x.tick();
        x.tick();
        x.tick();
        checks.due("position(0)", 88, x.position(0));
        checks.due("predicted(0)", 88, x.predicted(0));
        for (int t = 1; t <= 3; t++) {
            x.deliver(2 * t - 2);
            checks.due("view(0, 0) of tick " + t, 85 + t, x.view(0, 0));
            checks.due("SEEN of tick " + t, t, x.count(0, 1));
            checks.due("predicted(0) from tick " + t, 88, x.predicted(0));
        }
    }

    /** "its commands SEEN + 1 to ISSUED": also those that the server has done, from where they had not been. */
    private static void doesWhatIsDoneButNotSeen(Checks checks) {
        int[] commands = {1, 1, 0, 0, 3, 0};
        int[] reached = {16, 32, 33, 34, 18, 19};
        DeltaPlayfield x = new DeltaPlayfield();
        for (int command : commands) {
            x.input(0, command);
        }
        Checks.sendReport(x, 0);
        for (int t = 1; t <= 4; t++) {
            x.tick();
            checks.due("position(0) at tick " + t, reached[t - 1], x.position(0));
            checks.due("predicted(0) when none is seen", 19, x.predicted(0));
        }
        for (int t = 1; t <= 4; t++) {
            x.deliver(2 * t - 2);
            checks.due("view(0, 0) of tick " + t, reached[t - 1], x.view(0, 0));
            checks.due("predicted(0) when " + t + " are seen and 4 done", 19, x.predicted(0));
        }
    }

    /** "its commands SEEN + 1 to ISSUED are done there": none when both are the same, one when there is one more. */
    private static void isTheSnapshotsPlaceWhenNoCommandIsLeft(Checks checks) {
        for (int seen = 0; seen <= 20; seen += 4) {
            DeltaPlayfield x = States.withSeen(seen);
            checks.due("SEEN", seen, x.count(0, 1));
            checks.due("predicted(0) with no command left", 0, x.predicted(0));
            checks.due("input", seen + 1, x.input(0, 1));
            checks.due("predicted(0) with one command left", 16, x.predicted(0));
        }
    }

    /** ISSUED - SEEN is 12 at most; each of the twelve shows in where they lead. */
    private static void doesTwelveCommandsAtMost(Checks checks) {
        for (int seen = 0; seen <= 20; seen++) {
            DeltaPlayfield x = States.withSeen(seen);
            int want = 0;
            for (int n = 1; n <= 12; n++) {
                checks.due("input", seen + n, x.input(0, n % 3 == 0 ? 1 : 0));
                want += n % 3 == 0 ? 16 : 1;
                checks.due("predicted(0) after " + n + " commands", want, x.predicted(0));
            }
            checks.due("the 13th input", -1, x.input(0, 0));
            checks.due("predicted(0) after the refused command", want, x.predicted(0));
        }
    }

    private static void isBlockedAtTheRimAndByWalls(Checks checks) {
        DeltaPlayfield x = new DeltaPlayfield();
        int[] commands = {3, 2, 0, 0, 1, 1, 2, 1, 0};
        int[] reached = {0, 0, 1, 1, 17, 33, 32, 32, 33};
        x.wall(0, 3);
        x.place(1, 5, 5, 0);
        x.wall(2, 0);
        for (int i = 0; i < commands.length; i++) {
            x.input(0, commands[i]);
            checks.due("predicted(0) after command " + (i + 1), reached[i], x.predicted(0));
        }
        x.place(2, 15, 15, 0);
        x.input(2, 0);
        checks.due("predicted(2) at the right rim", 255, x.predicted(2));
        x.input(2, 1);
        checks.due("predicted(2) at the lower rim", 255, x.predicted(2));
    }

    private static void aDroppedSnapshotDoesNotCount(Checks checks) {
        DeltaPlayfield x = new DeltaPlayfield();
        x.wall(0, 1);
        x.input(0, 0);
        x.input(0, 0);
        Checks.sendReport(x, 0);
        x.tick();
        x.tick();
        x.tick();
        checks.due("deliver of tick 2", 1, x.deliver(3));
        checks.due("predicted(0)", 2, x.predicted(0));
        checks.due("deliver of tick 1", 0, x.deliver(0));
        checks.due("predicted(0) after a dropped one", 2, x.predicted(0));
        x.input(0, 2);
        checks.due("predicted(0) after a command more", 1, x.predicted(0));
    }

    private static void eachClientHasItsOwn(Checks checks) {
        DeltaPlayfield x = new DeltaPlayfield();
        for (int c = 0; c < 3; c++) {
            x.place(c, 4 * c, 4, 0);
            x.input(c, c);
        }
        int[] want = {4 * 16 + 1, 5 * 16 + 4, 4 * 16 + 7};
        for (int c = 0; c < 3; c++) {
            checks.due("predicted(" + c + ")", want[c], x.predicted(c));
        }
    }
}
