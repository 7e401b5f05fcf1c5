/** Edges of promise 7. */
public final class Edges07DeliverTest {
    public static void main(String[] args) {
        Checks checks = new Checks();
        everyPlaceCanBeTakenOut(checks);
        beyondThePlacesIsNone(checks);
        aDroppedSnapshotIsTakenOut(checks);
        aRepeatedSnapshotIsDropped(checks);
        aReportIsNeverDropped(checks);
        getsToItsOwnReceiver(checks);
        checks.end();
    }

    /** "Takes the packet at place k of the flight (0 is the oldest) out": the first, the last and all between. */
    private static void everyPlaceCanBeTakenOut(Checks checks) {
        for (int size = 1; size <= 24; size++) {
            for (int k = 0; k < size; k++) {
                DeltaPlayfield x = new DeltaPlayfield();
                for (int i = 0; i < size; i++) {
                    x.report(i % 3);
                }
                checks.due("deliver(" + k + ") of " + size, 1, x.deliver(k));
                checks.due("flight()", size - 1, x.flight());
                for (int i = 0; i < size - 1; i++) {
                    checks.due("client at " + i, (i < k ? i : i + 1) % 3, x.packet(i, 0));
                }
            }
        }
    }

    /** "NONE when k is no place." */
    private static void beyondThePlacesIsNone(Checks checks) {
        for (int i = 0; i < States.RUNS.length; i++) {
            int size = States.after(States.RUNS[i]).flight();
            int[] outside = {-1, size, size + 1, -size - 1, 24};
            for (int k : outside) {
                Refused.none(checks, "deliver(" + k + ") of " + size, States.RUNS[i], x -> x.deliver(k));
            }
        }
        for (int far : Checks.FAR) {
            Refused.alwaysNone(checks, "deliver(" + far + ")", x -> x.deliver(far));
        }
    }

    /** "0 when it is a snapshot that is dropped": it is out of the flight, and else nothing is changed. */
    private static void aDroppedSnapshotIsTakenOut(Checks checks) {
        for (int c = 0; c < 3; c++) {
            DeltaPlayfield x = new DeltaPlayfield();
            x.input(c, 1);
            Checks.sendReport(x, c);
            x.tick();
            x.copy(c);
            x.tick();
            checks.due("deliver of tick 2", 1, x.deliver(4 + c));
            DeltaPlayfield lost = new DeltaPlayfield();
            lost.input(c, 1);
            Checks.sendReport(lost, c);
            lost.tick();
            lost.copy(c);
            lost.tick();
            lost.deliver(4 + c);
            checks.due("deliver of tick 1", 0, x.deliver(c));
            lost.lose(c);
            checks.same("a dropped snapshot, other than a lost one,", Checks.stateOf(lost), x);
            checks.due("deliver of the copy of tick 1", 0, x.deliver(2));
            checks.due("flight()", 4, x.flight());
        }
    }

    /** The same snapshot twice: the first is taken, the second is dropped. */
    private static void aRepeatedSnapshotIsDropped(Checks checks) {
        for (int c = 0; c < 3; c++) {
            DeltaPlayfield x = new DeltaPlayfield();
            x.tick();
            x.copy(c);
            checks.due("deliver of tick 1", 1, x.deliver(c));
            checks.due("deliver of tick 1 again", 0, x.deliver(2));
            checks.due("flight()", 2, x.flight());
            checks.due("NEWEST", 1, x.count(c, 4));
        }
    }

    private static void aReportIsNeverDropped(Checks checks) {
        DeltaPlayfield x = new DeltaPlayfield();
        x.input(0, 1);
        x.report(0);
        x.copy(0);
        x.copy(0);
        x.tick();
        for (int i = 0; i < 3; i++) {
            checks.due("deliver of the same report", 1, x.deliver(0));
            checks.due("flight()", 5 - i, x.flight());
            x.tick();
            x.lose(x.flight() - 1);
            x.lose(x.flight() - 1);
            x.lose(x.flight() - 1);
        }
        checks.due("DONE", 1, x.count(0, 2));
    }

    private static void getsToItsOwnReceiver(Checks checks) {
        for (int c = 0; c < 3; c++) {
            DeltaPlayfield x = new DeltaPlayfield();
            x.tick();
            checks.due("deliver(" + c + ")", 1, x.deliver(c));
            for (int other = 0; other < 3; other++) {
                checks.due("NEWEST of " + other, other == c ? 1 : 0, x.count(other, 4));
                checks.due("view(" + other + ", 0)", other == c ? 0 : -1, x.view(other, 0));
            }
        }
    }
}
