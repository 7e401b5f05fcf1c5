/** Edges of promise 11. */
public final class Edges11PacketTest {
    public static void main(String[] args) {
        Checks checks = new Checks();
        placesAreTheFlights(checks);
        whichIsFrom0To5(checks);
        aBaseThatIsNoneIs0(checks);
        countsOfCommandsAreFrom0To4(checks);
        doneAndSeenAreAsTheyWere(checks);
        changesNothing(checks);
        checks.end();
    }

    /** "NONE when k is no place" */
    private static void placesAreTheFlights(Checks checks) {
        for (int i = 0; i < States.RUNS.length; i++) {
            DeltaPlayfield x = States.after(States.RUNS[i]);
            int size = x.flight();
            for (int k = 0; k < size; k++) {
                checks.no("packet(" + k + ", 0) of " + size + " is NONE", x.packet(k, 0) == DeltaPlayfield.NONE);
            }
            int[] outside = {-1, size, size + 1, -size - 1, 24};
            for (int k : outside) {
                for (int which = 0; which < 6; which++) {
                    int asked = which;
                    Refused.none(checks, "packet(" + k + ", " + which + ") of " + size, States.RUNS[i],
                            y -> y.packet(k, asked));
                }
            }
        }
        for (int far : Checks.FAR) {
            Refused.alwaysNone(checks, "packet(" + far + ", 0)", x -> x.packet(far, 0));
        }
    }

    /** "or which is not 0 .. 5" */
    private static void whichIsFrom0To5(Checks checks) {
        DeltaPlayfield x = new DeltaPlayfield();
        x.tick();
        x.report(1);
        int[][] rows = {{0, 1, 21 + 4 * 9 + 4, 1, 0, 0}, {1, 0, 23, 0, 0, 0}};
        int[] at = {0, 3};
        for (int i = 0; i < 2; i++) {
            for (int which = -2; which <= 7; which++) {
                int want = which >= 0 && which <= 5 ? rows[i][which] : -1;
                checks.due("packet(" + at[i] + ", " + which + ")", want, x.packet(at[i], which));
            }
        }
        int[] outside = {-1, 6, 7, 8};
        for (int which : outside) {
            for (int k = 0; k < 12; k++) {
                int place = k;
                Refused.none(checks, "packet(" + k + ", " + which + ")", States::busy, y -> y.packet(place, which));
            }
        }
        for (int far : Checks.FAR) {
            Refused.alwaysNone(checks, "packet(0, " + far + ")", y -> y.packet(0, far));
        }
    }

    /** "4 the base of a snapshot (0 when it has none)" */
    private static void aBaseThatIsNoneIs0(Checks checks) {
        DeltaPlayfield x = new DeltaPlayfield();
        x.tick();
        checks.due("base of tick 1", 0, x.packet(0, 4));
        Checks.loseAll(x);
        Checks.acknowledgedTick(x, 0);
        for (int t = 3; t <= 9; t++) {
            x.tick();
            checks.due("base of tick " + t, t <= 8 ? 2 : 0, x.packet(0, 4));
            Checks.loseAll(x);
        }
    }

    /** "or how many commands a report tells" */
    private static void countsOfCommandsAreFrom0To4(Checks checks) {
        DeltaPlayfield x = new DeltaPlayfield();
        for (int n = 0; n <= 5; n++) {
            x.report(2);
            checks.due("commands told of " + n, Math.min(n, 4), x.packet(n, 4));
            checks.due("size with " + n, 23 + 3 * Math.min(n, 4), x.packet(n, 2));
            x.input(2, 4);
        }
    }

    /** "5 the DONE that a snapshot tells, or the SEEN of the report's client when it was sent" */
    private static void doneAndSeenAreAsTheyWere(Checks checks) {
        DeltaPlayfield x = new DeltaPlayfield();
        x.input(0, 4);
        x.input(0, 4);
        x.report(0);
        x.copy(0);
        x.deliver(0);
        x.tick();
        x.tick();
        checks.due("DONE told at tick 1", 1, x.packet(1, 5));
        checks.due("DONE told at tick 2", 2, x.packet(4, 5));
        x.deliver(4);
        checks.due("SEEN", 2, x.count(0, 1));
        checks.due("SEEN of the report that was sent before", 0, x.packet(0, 5));
        checks.due("NEWEST of the report that was sent before", 0, x.packet(0, 3));
        x.report(0);
        checks.due("SEEN of the report that was sent after", 2, x.packet(6, 5));
        checks.due("NEWEST of the report that was sent after", 2, x.packet(6, 3));
    }

    private static void changesNothing(Checks checks) {
        DeltaPlayfield x = States.after(States::busy);
        String before = Checks.stateOf(x);
        for (int k = 0; k < x.flight(); k++) {
            x.packet(k, 2);
        }
        checks.same("packet", before, x);
    }
}
