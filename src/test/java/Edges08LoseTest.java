/** Edges of promise 8. */
public final class Edges08LoseTest {
    public static void main(String[] args) {
        Checks checks = new Checks();
        everyPlaceCanBeLost(checks);
        beyondThePlacesIsFalse(checks);
        whatIsLostGetsToNobody(checks);
        checks.end();
    }

    /** "Takes the packet at place k out of the flight": the first, the last and all between. */
    private static void everyPlaceCanBeLost(Checks checks) {
        for (int size = 1; size <= 24; size++) {
            for (int k = 0; k < size; k++) {
                DeltaPlayfield x = new DeltaPlayfield();
                for (int i = 0; i < size; i++) {
                    x.report(i % 3);
                }
                checks.yes("lose(" + k + ") of " + size, x.lose(k));
                checks.due("flight()", size - 1, x.flight());
                for (int i = 0; i < size - 1; i++) {
                    checks.due("client at " + i, (i < k ? i : i + 1) % 3, x.packet(i, 0));
                }
            }
        }
    }

    /** "false when k is no place" */
    private static void beyondThePlacesIsFalse(Checks checks) {
        for (int i = 0; i < States.RUNS.length; i++) {
            int size = States.after(States.RUNS[i]).flight();
            int[] outside = {-1, size, size + 1, -size - 1, 24};
            for (int k : outside) {
                Refused.no(checks, "lose(" + k + ") of " + size, States.RUNS[i], x -> x.lose(k));
            }
        }
        for (int far : Checks.FAR) {
            Refused.alwaysNo(checks, "lose(" + far + ")", x -> x.lose(far));
        }
    }

    private static void whatIsLostGetsToNobody(Checks checks) {
        DeltaPlayfield x = new DeltaPlayfield();
        x.input(0, 1);
        x.tick();
        x.deliver(0);
        String before = Checks.stateOf(x);
        x.report(0);
        checks.yes("lose of a report", x.lose(2));
        checks.same("a lost report", before, x);
        checks.yes("lose of a snapshot", x.lose(0));
        checks.due("NEWEST of client 1", 0, x.count(1, 4));
        x.tick();
        checks.due("DONE of client 0", 0, x.count(0, 2));
        checks.due("base for client 0", 0, x.packet(1, 4));
    }
}
