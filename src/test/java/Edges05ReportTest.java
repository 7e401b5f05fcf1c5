/** Edges of promise 5. */
public final class Edges05ReportTest {
    public static void main(String[] args) {
        Checks checks = new Checks();
        clientsAreFrom0To2(checks);
        aFullFlightIsNoReasonForFalse(checks);
        aReportChangesNothingButTheFlight(checks);
        aReportTellsWhatWasWhenItWasSent(checks);
        checks.end();
    }

    /** "False when there is no such client." */
    private static void clientsAreFrom0To2(Checks checks) {
        for (int c = 0; c < 3; c++) {
            DeltaPlayfield x = new DeltaPlayfield();
            checks.yes("report(" + c + ")", x.report(c));
            checks.due("flight()", 1, x.flight());
            checks.due("client of the report", c, x.packet(0, 0));
            checks.due("kind of the report", 0, x.packet(0, 1));
        }
        int[] outside = {-1, 3, 4, 7, -3};
        for (int c : outside) {
            Refused.alwaysNo(checks, "report(" + c + ")", x -> x.report(c));
        }
        for (int far : Checks.FAR) {
            Refused.alwaysNo(checks, "report(" + far + ")", x -> x.report(far));
        }
    }

    /** The only reason for false is a wrong client: what is sent into a full flight is sent, and lost. */
    private static void aFullFlightIsNoReasonForFalse(Checks checks) {
        for (int c = 0; c < 3; c++) {
            DeltaPlayfield x = States.after(States::full);
            String before = Checks.stateOf(x);
            checks.due("flight()", 24, x.flight());
            checks.yes("report(" + c + ")", x.report(c));
            checks.same("a report that was lost", before, x);
        }
    }

    private static void aReportChangesNothingButTheFlight(Checks checks) {
        for (int c = 0; c < 3; c++) {
            DeltaPlayfield x = States.after(States::busy);
            String before = Checks.stateOf(x);
            x.report(c);
            x.lose(x.flight() - 1);
            checks.same("a report", before, x);
        }
    }

    /** What the client does afterwards is not told, and what it knows afterwards neither. */
    private static void aReportTellsWhatWasWhenItWasSent(Checks checks) {
        DeltaPlayfield x = new DeltaPlayfield();
        x.input(0, 1);
        x.report(0);
        x.input(0, 1);
        x.tick();
        x.deliver(1);
        int[] want = {0, 0, 26, 0, 1, 0};
        for (int which = 0; which < 6; which++) {
            checks.due("packet(0, " + which + ")", want[which], x.packet(0, which));
        }
        x.deliver(0);
        checks.due("held", 1, x.count(0, 3));
        checks.due("acknowledged", 0, x.count(0, 5));
    }
}
