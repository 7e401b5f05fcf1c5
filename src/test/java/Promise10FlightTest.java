public final class Promise10FlightTest {
    public static void main(String[] args) {
        Checks checks = new Checks();
        DeltaPlayfield x = new DeltaPlayfield();
        checks.due("flight() of a new object", 0, x.flight());
        x.report(0);
        checks.due("flight() after a report", 1, x.flight());
        x.report(3);
        checks.due("flight() after a refused report", 1, x.flight());
        x.tick();
        checks.due("flight() after a tick", 4, x.flight());
        x.copy(0);
        checks.due("flight() after a copy", 5, x.flight());
        x.lose(0);
        checks.due("flight() after a lose", 4, x.flight());
        x.lose(4);
        checks.due("flight() after a refused lose", 4, x.flight());
        x.deliver(2);
        checks.due("flight() after a deliver", 3, x.flight());
        x.input(0, 0);
        checks.due("flight() after an input", 3, x.flight());
        for (int t = 0; t < 7; t++) {
            x.tick();
        }
        checks.due("flight() when it is full", 24, x.flight());
        x.tick();
        x.report(0);
        x.copy(0);
        checks.due("flight() when it was full", 24, x.flight());
        for (int left = 23; left >= 0; left--) {
            x.deliver(0);
            checks.due("flight() while it empties", left, x.flight());
        }
        x.deliver(0);
        checks.due("flight() when it was empty", 0, x.flight());
        checks.end();
    }
}
