/** Edges of promise 10. */
public final class Edges10FlightTest {
    public static void main(String[] args) {
        Checks checks = new Checks();
        countsFrom0To24(checks);
        countsWhatIsTakenOut(checks);
        refusedCallsDoNotCount(checks);
        changesNothing(checks);
        checks.end();
    }

    /** "The number of packets in flight": 0 is the least, 24 the most. */
    private static void countsFrom0To24(Checks checks) {
        DeltaPlayfield x = new DeltaPlayfield();
        for (int sent = 0; sent <= 26; sent++) {
            checks.due("flight() after " + sent + " reports", Math.min(sent, 24), x.flight());
            x.report(sent % 3);
        }
        DeltaPlayfield y = new DeltaPlayfield();
        for (int t = 0; t <= 9; t++) {
            checks.due("flight() after " + t + " ticks", Math.min(3 * t, 24), y.flight());
            y.tick();
        }
        DeltaPlayfield z = new DeltaPlayfield();
        z.report(0);
        for (int copies = 0; copies <= 25; copies++) {
            checks.due("flight() after " + copies + " copies", Math.min(1 + copies, 24), z.flight());
            z.copy(0);
        }
    }

    private static void countsWhatIsTakenOut(Checks checks) {
        DeltaPlayfield x = States.after(States::full);
        for (int left = 24; left >= 0; left--) {
            checks.due("flight() while packets are lost", left, x.flight());
            x.lose(left / 2);
        }
        checks.due("flight() after a lose of nothing", 0, x.flight());
        DeltaPlayfield y = States.after(States::full);
        for (int left = 24; left >= 0; left--) {
            checks.due("flight() while packets are delivered", left, y.flight());
            y.deliver(left - 1);
        }
        checks.due("flight() after a deliver of nothing", 0, y.flight());
    }

    private static void refusedCallsDoNotCount(Checks checks) {
        for (States.Run run : States.RUNS) {
            DeltaPlayfield x = States.after(run);
            int size = x.flight();
            x.report(-1);
            x.report(3);
            x.deliver(-1);
            x.deliver(size);
            x.lose(-1);
            x.lose(size);
            x.copy(-1);
            x.copy(size);
            checks.due("flight() after refused calls", size, x.flight());
        }
    }

    private static void changesNothing(Checks checks) {
        for (States.Run run : States.RUNS) {
            DeltaPlayfield x = States.after(run);
            String before = Checks.stateOf(x);
            checks.due("flight() again", x.flight(), x.flight());
            checks.same("flight()", before, x);
        }
    }
}
