/** Edges of promise 13. */
public final class Edges13ViewTest {
    public static void main(String[] args) {
        Checks checks = new Checks();
        clientsAndEntities(checks);
        noneBeforeOneWasTaken(checks);
        noneWhenItIsNotToldThere(checks);
        isOfTheSnapshotTakenLatest(checks);
        checks.end();
    }

    /** "or there is no such client or entity" */
    private static void clientsAndEntities(Checks checks) {
        DeltaPlayfield x = new DeltaPlayfield();
        for (int e = 0; e < 8; e++) {
            x.place(e, e, 15, 1);
        }
        x.tick();
        for (int c = 0; c < 3; c++) {
            x.deliver(0);
        }
        for (int c = -1; c <= 3; c++) {
            for (int e = -1; e <= 8; e++) {
                boolean inside = c >= 0 && c <= 2 && e >= 0 && e <= 7;
                checks.due("view(" + c + ", " + e + ")", inside ? 240 + e : -1, x.view(c, e));
            }
        }
        int[][] outside = {{-1, 0}, {3, 0}, {0, -1}, {2, 8}, {-1, 8}, {3, -1}, {1, -8}, {0, 16}};
        for (int[] at : outside) {
            Refused.alwaysNone(checks, "view(" + at[0] + ", " + at[1] + ")", y -> y.view(at[0], at[1]));
        }
        for (int far : Checks.FAR) {
            Refused.alwaysNone(checks, "view(" + far + ", 0)", y -> y.view(far, 0));
            Refused.alwaysNone(checks, "view(0, " + far + ")", y -> y.view(0, far));
        }
    }

    /** "none was taken" */
    private static void noneBeforeOneWasTaken(Checks checks) {
        States.Run inFlight = x -> {
            x.tick();
            x.deliver(1);
        };
        for (int e = 0; e < 8; e++) {
            int entity = e;
            Refused.none(checks, "view(0, " + e + ")", inFlight, x -> x.view(0, entity));
            Refused.none(checks, "view(2, " + e + ")", inFlight, x -> x.view(2, entity));
        }
        DeltaPlayfield x = States.after(inFlight);
        checks.due("view(1, 1), who took one", 2, x.view(1, 1));
        x.deliver(0);
        checks.due("view(0, 0), who now took one", 0, x.view(0, 0));
    }

    /** "when it is not told there": drifter 3 goes from the last square that client 0 sees to the next one. */
    private static void noneWhenItIsNotToldThere(Checks checks) {
        DeltaPlayfield x = States.lonely(6, 0, 0);
        x.tick();
        x.deliver(0);
        checks.due("view(0, 3) in the last block", 7, x.view(0, 3));
        checks.due("view(0, 4), who is far off", -1, x.view(0, 4));
        Checks.loseAll(x);
        x.tick();
        checks.due("view(0, 3) before the next snapshot is taken", 7, x.view(0, 3));
        x.deliver(0);
        checks.due("view(0, 3) beyond it", -1, x.view(0, 3));
        checks.due("view(0, 0), always told", 0, x.view(0, 0));
        DeltaPlayfield y = States.lonely(9, 0, 2);
        y.tick();
        y.deliver(0);
        checks.due("view(0, 3) beyond the last block", -1, y.view(0, 3));
        Checks.loseAll(y);
        y.tick();
        y.deliver(0);
        checks.due("view(0, 3) come into it", 7, y.view(0, 3));
    }

    /** "in the snapshot that the client took latest": neither one in flight nor one that was dropped. */
    private static void isOfTheSnapshotTakenLatest(Checks checks) {
        DeltaPlayfield x = States.lonely(0, 0, 0);
        x.tick();
        x.tick();
        x.tick();
        x.deliver(3);
        checks.due("view(0, 3) of tick 2", 2, x.view(0, 3));
        x.deliver(0);
        checks.due("view(0, 3) after tick 1 was dropped", 2, x.view(0, 3));
        x.deliver(4);
        checks.due("view(0, 3) of tick 3", 3, x.view(0, 3));
    }
}
