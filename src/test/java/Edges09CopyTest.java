/** Edges of promise 9. */
public final class Edges09CopyTest {
    public static void main(String[] args) {
        Checks checks = new Checks();
        everyPlaceCanBeCopied(checks);
        beyondThePlacesIsFalse(checks);
        theCopyMayBeThe24th(checks);
        a25thIsRefused(checks);
        theCopyIsLikeTheFirst(checks);
        checks.end();
    }

    /** "Puts a copy of the packet at place k at the end of the flight" */
    private static void everyPlaceCanBeCopied(Checks checks) {
        for (int size = 1; size <= 23; size++) {
            for (int k = 0; k < size; k++) {
                DeltaPlayfield x = new DeltaPlayfield();
                for (int i = 0; i < size; i++) {
                    x.report(i % 3);
                }
                checks.yes("copy(" + k + ") of " + size, x.copy(k));
                checks.due("flight()", size + 1, x.flight());
                for (int i = 0; i < size; i++) {
                    checks.due("client at " + i, i % 3, x.packet(i, 0));
                }
                checks.due("client at the end", k % 3, x.packet(size, 0));
            }
        }
    }

    /** "false when k is no place" */
    private static void beyondThePlacesIsFalse(Checks checks) {
        for (int i = 0; i < States.RUNS.length; i++) {
            int size = States.after(States.RUNS[i]).flight();
            int[] outside = {-1, size, size + 1, -size - 1, 24};
            for (int k : outside) {
                Refused.no(checks, "copy(" + k + ") of " + size, States.RUNS[i], x -> x.copy(k));
            }
        }
        for (int far : Checks.FAR) {
            Refused.alwaysNo(checks, "copy(" + far + ")", x -> x.copy(far));
        }
    }

    /** "or 24 are in flight": 23 are not. */
    private static void theCopyMayBeThe24th(Checks checks) {
        for (int k = 0; k < 23; k++) {
            DeltaPlayfield x = States.after(States::full);
            x.lose(23);
            checks.yes("copy(" + k + ") of 23", x.copy(k));
            checks.due("flight()", 24, x.flight());
            for (int which = 0; which < 6; which++) {
                checks.due("packet of the copy, " + which, x.packet(k, which), x.packet(23, which));
            }
        }
    }

    /** "or 24 are in flight" */
    private static void a25thIsRefused(Checks checks) {
        for (int k = 0; k < 24; k++) {
            int place = k;
            Refused.no(checks, "copy(" + k + ") of 24", States::full, x -> x.copy(place));
        }
    }

    /** What a copy of a report or of a snapshot does is what the first would have done. */
    private static void theCopyIsLikeTheFirst(Checks checks) {
        int size = States.after(States::busy).flight();
        for (int k = 0; k < size; k++) {
            DeltaPlayfield first = States.after(States::busy);
            DeltaPlayfield copied = States.after(States::busy);
            checks.yes("copy(" + k + ")", copied.copy(k));
            checks.due("deliver of the copy of " + k, first.deliver(k), copied.deliver(size));
            copied.lose(k);
            checks.same("a copy of " + k, Checks.stateOf(first), copied);
            first.tick();
            copied.tick();
            checks.same("a tick after the copy of " + k, Checks.stateOf(first), copied);
        }
    }
}
