/** "No walls, no commands, nothing in flight, all as said for the beginning." */
public final class Edges01NewObjectTest {
    public static void main(String[] args) {
        Checks checks = new Checks();
        noWalls(checks);
        noCommands(checks);
        nothingInFlight(checks);
        noSnapshotTaken(checks);
        noneAcknowledged(checks);
        eachObjectBeginsAnew(checks);
        checks.end();
    }

    /** No wall on the first square, on the last, or between: a player can be placed there. */
    private static void noWalls(Checks checks) {
        DeltaPlayfield x = new DeltaPlayfield();
        for (int i = 0; i < 256; i++) {
            checks.yes("place of player 2 on square " + i, x.place(2, i % 16, i / 16, 0));
        }
    }

    private static void noCommands(Checks checks) {
        DeltaPlayfield x = new DeltaPlayfield();
        for (int c = 0; c < 3; c++) {
            for (int which = 0; which <= 3; which++) {
                checks.due("count(" + c + ", " + which + ")", 0, x.count(c, which));
            }
            x.report(c);
            checks.due("commands told by " + c, 0, x.packet(c, 4));
        }
        x.deliver(0);
        x.deliver(0);
        x.deliver(0);
        x.tick();
        for (int c = 0; c < 3; c++) {
            checks.due("DONE of " + c + " after a tick", 0, x.count(c, 2));
            checks.due("the first number of " + c, 1, x.input(c, 4));
        }
    }

    private static void nothingInFlight(Checks checks) {
        checks.due("flight()", 0, new DeltaPlayfield().flight());
        Refused.none(checks, "deliver(0)", States::fresh, x -> x.deliver(0));
        Refused.no(checks, "lose(0)", States::fresh, x -> x.lose(0));
        Refused.no(checks, "copy(0)", States::fresh, x -> x.copy(0));
        Refused.none(checks, "packet(0, 0)", States::fresh, x -> x.packet(0, 0));
    }

    private static void noSnapshotTaken(Checks checks) {
        DeltaPlayfield x = new DeltaPlayfield();
        for (int c = 0; c < 3; c++) {
            checks.due("NEWEST of " + c, 0, x.count(c, 4));
            checks.due("predicted(" + c + ")", 2 * c, x.predicted(c));
            for (int e = 0; e < 8; e++) {
                checks.due("view(" + c + ", " + e + ")", -1, x.view(c, e));
            }
        }
    }

    private static void noneAcknowledged(Checks checks) {
        DeltaPlayfield x = new DeltaPlayfield();
        x.tick();
        for (int c = 0; c < 3; c++) {
            checks.due("acknowledged by " + c, 0, x.count(c, 5));
            checks.due("base for " + c, 0, x.packet(c, 4));
        }
    }

    /** Whatever other objects went through, a new one answers like the first. */
    private static void eachObjectBeginsAnew(Checks checks) {
        String first = Checks.stateOf(new DeltaPlayfield());
        for (States.Run run : States.RUNS) {
            DeltaPlayfield used = States.after(run);
            String before = Checks.stateOf(used);
            DeltaPlayfield x = new DeltaPlayfield();
            checks.same("another object", first, x);
            x.tick();
            x.deliver(0);
            checks.same("the new object", before, used);
        }
        // The walls of the others do not show in what can be asked.
        noWalls(checks);
    }
}
