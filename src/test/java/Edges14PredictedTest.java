/** Edges of promise 14; what is predicted is looked at in the tests of "Terms". */
public final class Edges14PredictedTest {
    public static void main(String[] args) {
        Checks checks = new Checks();
        clientsAreFrom0To2(checks);
        changesNothing(checks);
        checks.end();
    }

    /** "NONE when there is no such client" */
    private static void clientsAreFrom0To2(Checks checks) {
        DeltaPlayfield x = new DeltaPlayfield();
        for (int c = 0; c < 3; c++) {
            checks.due("predicted(" + c + ")", 2 * c, x.predicted(c));
        }
        int[] outside = {-1, 3, 4, 7, -3};
        for (int c : outside) {
            Refused.alwaysNone(checks, "predicted(" + c + ")", y -> y.predicted(c));
        }
        for (int far : Checks.FAR) {
            Refused.alwaysNone(checks, "predicted(" + far + ")", y -> y.predicted(far));
        }
    }

    private static void changesNothing(Checks checks) {
        for (States.Run run : States.RUNS) {
            DeltaPlayfield x = States.after(run);
            String before = Checks.stateOf(x);
            for (int c = 0; c < 3; c++) {
                checks.due("predicted(" + c + ") again", x.predicted(c), x.predicted(c));
            }
            checks.same("predicted", before, x);
        }
    }
}
