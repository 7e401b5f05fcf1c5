/**
 * "An object is used for at most 512 calls after it has been made; what later calls answer is free."
 *
 * <p>The 512th call is still answered as the document says. Later answers are not looked at, but no call may throw.
 */
public final class Edges512CallsTest {
    private static final int CALLS = 512;

    public static void main(String[] args) {
        Checks checks = new Checks();
        the512thTickIsTick512(checks);
        theLastSnapshotIsStillTaken(checks);
        the512thReportIsStillLost(checks);
        the512thCallAfterRefusedOnes(checks);
        packetsComeAndGoFor512Calls(checks);
        asManyCommandsAs512CallsCanDo(checks);
        wallsAndPlacesFor512Calls(checks);
        laterCallsEndWithoutAnException(checks);
        checks.end();
    }

    private static void the512thTickIsTick512(Checks checks) {
        DeltaPlayfield x = new DeltaPlayfield();
        for (int call = 1; call <= CALLS; call++) {
            checks.due("tick() as call " + call, call, x.tick());
        }
        DeltaPlayfield y = new DeltaPlayfield();
        for (int call = 1; call < CALLS; call++) {
            y.tick();
        }
        // A drifter crosses the field and is back every 32 ticks; drifter 3 will be back at x = 6 at tick 512.
        checks.due("position(3) as call 512", 5, y.position(3));
    }

    /** All but the first snapshots are lost, until one is taken out to make room for the last. */
    private static void theLastSnapshotIsStillTaken(Checks checks) {
        for (int which = 0; which < 6; which++) {
            DeltaPlayfield x = new DeltaPlayfield();
            x.input(0, 1);
            x.report(0);
            x.deliver(0);
            for (int call = 4; call <= 508; call++) {
                x.tick();
            }
            checks.yes("lose(23) as call 509", x.lose(23));
            checks.due("tick() as call 510", 506, x.tick());
            checks.due("deliver(23) as call 511", 1, x.deliver(23));
            int[] want = {1, 1, 1, 0, 506, 0};
            checks.due("count(0, " + which + ") as call 512", want[which], x.count(0, which));
        }
    }

    private static void the512thReportIsStillLost(Checks checks) {
        DeltaPlayfield x = new DeltaPlayfield();
        for (int call = 1; call < CALLS; call++) {
            checks.yes("report(1) as call " + call, x.report(1));
        }
        checks.due("flight() as call 512", 24, x.flight());
    }

    private static void the512thCallAfterRefusedOnes(Checks checks) {
        DeltaPlayfield x = new DeltaPlayfield();
        for (int call = 1; call < CALLS; call++) {
            checks.due("input(3, 0) as call " + call, -1, x.input(3, 0));
        }
        checks.due("input(0, 0) as call 512", 1, x.input(0, 0));
    }

    private static void packetsComeAndGoFor512Calls(Checks checks) {
        DeltaPlayfield x = new DeltaPlayfield();
        x.input(2, 1);
        x.input(2, 0);
        x.report(2);
        for (int call = 4; call <= 509; call += 2) {
            checks.yes("copy(0) as call " + call, x.copy(0));
            checks.due("deliver(0) as call " + (call + 1), 1, x.deliver(0));
        }
        checks.due("packet(0, 4) as call 510", 2, x.packet(0, 4));
        checks.due("tick() as call 511", 1, x.tick());
        checks.due("position(2) as call 512", 20, x.position(2));
    }

    /**
     * 23 packets stay in flight, so that one more flies and all others are lost: then twelve calls make, send, do
     * and show four commands.
     */
    private static void asManyCommandsAs512CallsCanDo(Checks checks) {
        DeltaPlayfield x = new DeltaPlayfield();
        Checks.fill(x, 23);
        int calls = 23;
        int made = 0;
        while (calls + 13 <= CALLS) {
            for (int i = 0; i < 4; i++) {
                made++;
                checks.due("input " + made, made, x.input(0, made % 30 < 15 ? 0 : 2));
            }
            checks.yes("report(0)", x.report(0));
            checks.due("deliver of the report", 1, x.deliver(23));
            x.tick();
            x.tick();
            x.tick();
            checks.yes("lose of the first snapshot", x.lose(23));
            checks.due("tick()", made, x.tick());
            checks.due("deliver of the fourth snapshot", 1, x.deliver(23));
            calls += 12;
        }
        checks.due("SEEN", made, x.count(0, 1));
        calls++;
        checks.due("commands made", 160, made);
        while (calls < CALLS - 1) {
            checks.due("flight()", 23, x.flight());
            calls++;
        }
        checks.due("predicted(0) as call 512", whereCommandsLead(160), x.predicted(0));
    }

    private static int whereCommandsLead(int made) {
        int at = 0;
        for (int n = 1; n <= made; n++) {
            at = n % 30 < 15 ? Math.min(at + 1, 15) : Math.max(at - 1, 0);
        }
        return at;
    }

    private static void wallsAndPlacesFor512Calls(Checks checks) {
        DeltaPlayfield x = new DeltaPlayfield();
        for (int call = 1; call < CALLS; call += 2) {
            int at = 16 + call % 240;
            checks.yes("place as call " + call, x.place(3, at % 16, at / 16, 1));
            checks.no("wall as call " + (call + 1), x.wall(at % 16, at / 16));
        }
        DeltaPlayfield y = new DeltaPlayfield();
        for (int call = 1; call < CALLS; call++) {
            int at = 16 + call % 240;
            checks.yes("wall as call " + call, y.wall(at % 16, at / 16));
        }
        checks.no("place on a wall as call 512", y.place(3, 15, 15, 1));
    }

    private static void laterCallsEndWithoutAnException(Checks checks) {
        for (States.Run before : States.RUNS) {
            DeltaPlayfield x = States.after(before);
            try {
                for (int i = 0; i < 3000; i++) {
                    everyCall(x, i);
                }
            } catch (RuntimeException thrown) {
                checks.yes("a later call threw " + thrown, false);
            }
        }
        checks.yes("later calls end", true);
    }

    private static void everyCall(DeltaPlayfield x, int i) {
        x.wall(i % 18 - 1, i / 18 % 18 - 1);
        x.place(i % 10 - 1, i % 17, i % 19, i % 6 - 1);
        for (int c = -1; c <= 3; c++) {
            x.input(c, (i + c) % 7 - 1);
            x.predicted(c);
            x.count(c, i % 8 - 1);
            x.view(c, i % 10 - 1);
        }
        x.report(i % 5 - 1);
        x.deliver(i % 26 - 1);
        if (i % 3 == 0) {
            x.tick();
        }
        x.deliver(x.flight() - 1);
        x.lose(i % 7);
        x.copy(i % 5);
        x.packet(i % 26 - 1, i % 8 - 1);
        x.position(i % 10 - 1);
    }
}
