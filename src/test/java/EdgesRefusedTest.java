/**
 * "A call that answers false or NONE changes nothing."
 *
 * <p>All calls that are refused, one after the other, on one object in each state; the tests of each promise look at
 * each such call alone.
 */
public final class EdgesRefusedTest {
    public static void main(String[] args) {
        Checks checks = new Checks();
        allAfterOneAnother(checks);
        betweenTheCallsOfARun(checks);
        checks.end();
    }

    private static void allAfterOneAnother(Checks checks) {
        for (int i = 0; i < States.RUNS.length; i++) {
            Refused.none(checks, "all refused calls, " + States.NAMES[i], States.RUNS[i], EdgesRefusedTest::refuse);
        }
    }

    /** NONE if all were refused. */
    private static int refuse(DeltaPlayfield x) {
        int k = x.flight();
        boolean refused = !x.wall(-1, 3) && !x.wall(3, 16) && !x.place(-1, 3, 3, 0) && !x.place(8, 3, 3, 0)
                && !x.place(0, 16, 3, 0) && !x.place(3, 3, 3, 4) && !x.place(7, 3, 3, -1)
                && x.input(-1, 0) == DeltaPlayfield.NONE && x.input(3, 0) == DeltaPlayfield.NONE
                && x.input(0, -1) == DeltaPlayfield.NONE && x.input(2, 5) == DeltaPlayfield.NONE
                && !x.report(-1) && !x.report(3) && !x.lose(-1) && !x.lose(k) && !x.copy(-1) && !x.copy(k)
                && x.deliver(-1) == DeltaPlayfield.NONE && x.deliver(k) == DeltaPlayfield.NONE
                && x.packet(-1, 0) == DeltaPlayfield.NONE && x.packet(k, 0) == DeltaPlayfield.NONE
                && x.packet(0, 6) == DeltaPlayfield.NONE && x.packet(0, -1) == DeltaPlayfield.NONE
                && x.position(-1) == DeltaPlayfield.NONE && x.position(8) == DeltaPlayfield.NONE
                && x.view(-1, 0) == DeltaPlayfield.NONE && x.view(0, 8) == DeltaPlayfield.NONE
                && x.predicted(-1) == DeltaPlayfield.NONE && x.predicted(3) == DeltaPlayfield.NONE
                && x.count(3, 0) == DeltaPlayfield.NONE && x.count(0, 6) == DeltaPlayfield.NONE;
        return refused ? DeltaPlayfield.NONE : 0;
    }

    /** The run of the busy state, with all that is refused at each of its steps. */
    private static void betweenTheCallsOfARun(Checks checks) {
        DeltaPlayfield plain = new DeltaPlayfield();
        DeltaPlayfield tried = new DeltaPlayfield();
        States.Run[] steps = {
            x -> x.wall(4, 3), x -> x.place(0, 4, 4, 0), x -> x.place(3, 6, 4, 2), x -> x.input(0, 0),
            x -> x.report(0), x -> x.deliver(0), DeltaPlayfield::tick, x -> x.deliver(0), x -> x.report(0),
            x -> x.copy(2), x -> x.deliver(2),
        };
        for (int i = 0; i < steps.length; i++) {
            steps[i].on(plain);
            checks.due("refused calls before step " + i, DeltaPlayfield.NONE, refuse(tried));
            steps[i].on(tried);
        }
        checks.same("a run with refused calls between", Checks.stateOf(plain), tried);
    }
}
