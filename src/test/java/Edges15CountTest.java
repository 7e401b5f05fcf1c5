/** Edges of promise 15. */
public final class Edges15CountTest {
    /** Of each client in the busy state. */
    private static final int[][] BUSY = {{6, 2, 3, 2, 2, 2}, {5, 0, 0, 0, 1, 0}, {2, 0, 0, 0, 0, 0}};

    public static void main(String[] args) {
        Checks checks = new Checks();
        clientsAndWhich(checks);
        heldIsFrom0To4(checks);
        heldWithAllNumbers(checks);
        acknowledgedIs0WhenThereIsNone(checks);
        issuedIsAtMost12MoreThanSeen(checks);
        checks.end();
    }

    /** "NONE when there is no such client or which is not 0 .. 5" */
    private static void clientsAndWhich(Checks checks) {
        DeltaPlayfield x = States.after(States::busy);
        for (int c = -1; c <= 3; c++) {
            for (int which = -1; which <= 6; which++) {
                boolean inside = c >= 0 && c <= 2 && which >= 0 && which <= 5;
                checks.due("count(" + c + ", " + which + ")", inside ? BUSY[c][which] : -1, x.count(c, which));
            }
        }
        int[][] outside = {{-1, 0}, {3, 0}, {0, -1}, {0, 6}, {2, -1}, {2, 6}, {-1, 6}, {3, -1}, {1, 7}, {-3, 5}};
        for (int[] at : outside) {
            Refused.alwaysNone(checks, "count(" + at[0] + ", " + at[1] + ")", y -> y.count(at[0], at[1]));
        }
        for (int far : Checks.FAR) {
            Refused.alwaysNone(checks, "count(" + far + ", 0)", y -> y.count(far, 0));
            Refused.alwaysNone(checks, "count(0, " + far + ")", y -> y.count(0, far));
        }
    }

    /** "3 how many of its commands the server holds": a report tells four at most, and all that is done is gone. */
    private static void heldIsFrom0To4(Checks checks) {
        for (int c = 0; c < 3; c++) {
            DeltaPlayfield x = new DeltaPlayfield();
            for (int n = 0; n < 12; n++) {
                x.input(c, 4);
            }
            checks.due("held before the report", 0, x.count(c, 3));
            Checks.sendReport(x, c);
            for (int t = 0; t <= 5; t++) {
                checks.due("held after " + t + " ticks", Math.max(0, 4 - t), x.count(c, 3));
                checks.due("DONE after " + t + " ticks", Math.min(4, t), x.count(c, 2));
                Checks.quietTick(x);
            }
        }
    }

    /** Each number up to 40 is held, is counted while it is, and is done. */
    private static void heldWithAllNumbers(Checks checks) {
        DeltaPlayfield x = new DeltaPlayfield();
        for (int number = 1; number <= 40; number++) {
            checks.due("input", number, x.input(0, 4));
            Checks.sendReport(x, 0);
            checks.due("held, command " + number, 1, x.count(0, 3));
            x.tick();
            checks.due("held after command " + number, 0, x.count(0, 3));
            x.deliver(0);
            x.lose(0);
            x.lose(0);
        }
        checks.due("SEEN", 40, x.count(0, 1));
    }

    /** "5 the greatest tick that it has acknowledged to the server (0 when there is none)" */
    private static void acknowledgedIs0WhenThereIsNone(Checks checks) {
        DeltaPlayfield x = new DeltaPlayfield();
        Checks.sendReport(x, 0);
        checks.due("acknowledged by a report that tells 0", 0, x.count(0, 5));
        x.tick();
        checks.due("acknowledged when a snapshot was sent", 0, x.count(0, 5));
        x.deliver(0);
        checks.due("acknowledged when it was taken", 0, x.count(0, 5));
        Checks.loseAll(x);
        x.report(0);
        checks.due("acknowledged when the report was sent", 0, x.count(0, 5));
        x.deliver(0);
        checks.due("acknowledged when the report got there", 1, x.count(0, 5));
        for (int t = 2; t <= 12; t++) {
            Checks.quietTick(x);
        }
        checks.due("acknowledged, however long ago", 1, x.count(0, 5));
    }

    /** "0 ISSUED, 1 SEEN": 12 apart at most. */
    private static void issuedIsAtMost12MoreThanSeen(Checks checks) {
        for (int seen = 0; seen <= 8; seen++) {
            DeltaPlayfield x = States.withSeen(seen);
            for (int n = 0; n <= 14; n++) {
                checks.due("ISSUED", seen + Math.min(n, 12), x.count(0, 0));
                checks.due("SEEN", seen, x.count(0, 1));
                x.input(0, 4);
            }
        }
    }
}
