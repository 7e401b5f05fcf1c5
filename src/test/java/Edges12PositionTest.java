/** Edges of promise 12. */
public final class Edges12PositionTest {
    public static void main(String[] args) {
        Checks checks = new Checks();
        entitiesAreFrom0To7(checks);
        isThePlaceAtTheServer(checks);
        checks.end();
    }

    /** "NONE when there is none" */
    private static void entitiesAreFrom0To7(Checks checks) {
        DeltaPlayfield x = new DeltaPlayfield();
        for (int e = 0; e < 8; e++) {
            x.place(e, 15 - e, 15, 0);
            checks.due("position(" + e + ")", 255 - e, x.position(e));
        }
        int[] outside = {-1, 8, 9, -8, 16};
        for (int e : outside) {
            Refused.alwaysNone(checks, "position(" + e + ")", y -> y.position(e));
        }
        for (int far : Checks.FAR) {
            Refused.alwaysNone(checks, "position(" + far + ")", y -> y.position(far));
        }
    }

    /** "The place of an entity at the server": not where a client shows it. */
    private static void isThePlaceAtTheServer(Checks checks) {
        DeltaPlayfield x = new DeltaPlayfield();
        x.input(0, 1);
        checks.due("predicted(0)", 16, x.predicted(0));
        checks.due("position(0) before the report", 0, x.position(0));
        Checks.sendReport(x, 0);
        checks.due("position(0) before the tick", 0, x.position(0));
        x.tick();
        checks.due("position(0) after the tick", 16, x.position(0));
        checks.due("position(3) after the tick", 7, x.position(3));
        x.tick();
        x.deliver(0);
        checks.due("view(0, 3)", 7, x.view(0, 3));
        checks.due("position(3)", 8, x.position(3));
    }
}
