public final class Promise08LoseTest {
    public static void main(String[] args) {
        Checks checks = new Checks();
        takesOutAndNothingElse(checks);
        refusesWhatIsNoPlace(checks);
        checks.end();
    }

    private static void takesOutAndNothingElse(Checks checks) {
        DeltaPlayfield x = new DeltaPlayfield();
        x.input(1, 1);
        String before = Checks.stateOf(x);
        x.report(1);
        checks.yes("lose of a report", x.lose(0));
        checks.same("a report that was lost", before, x);
        x.tick();
        checks.yes("lose of a snapshot", x.lose(1));
        checks.due("flight()", 2, x.flight());
        checks.due("packet(0, 0)", 0, x.packet(0, 0));
        checks.due("packet(1, 0)", 2, x.packet(1, 0));
        checks.due("NEWEST of client 1", 0, x.count(1, 4));
        checks.due("view(1, 1)", -1, x.view(1, 1));
        checks.yes("lose of the last", x.lose(1));
        checks.yes("lose of the first", x.lose(0));
        checks.due("flight()", 0, x.flight());
    }

    private static void refusesWhatIsNoPlace(Checks checks) {
        DeltaPlayfield x = new DeltaPlayfield();
        checks.no("lose(0) of nothing", x.lose(0));
        x.tick();
        String before = Checks.stateOf(x);
        checks.no("lose(3)", x.lose(3));
        checks.no("lose(-1)", x.lose(-1));
        for (int far : Checks.FAR) {
            checks.no("lose(" + far + ")", x.lose(far));
        }
        checks.same("a refused lose", before, x);
    }
}
