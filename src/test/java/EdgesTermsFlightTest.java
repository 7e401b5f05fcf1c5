/** Edges of the sentences on the flight, under "Terms". */
public final class EdgesTermsFlightTest {
    public static void main(String[] args) {
        Checks checks = new Checks();
        the24thReportFliesAndThe25thIsLost(checks);
        snapshotsFlyAsFarAsThereIsRoom(checks);
        aTickIsDoneWhenItsSnapshotsAreLost(checks);
        whatIsLostDoesNotComeBack(checks);
        whatIsTakenOutMakesRoomForOne(checks);
        whatIsSentIsPutAtTheEnd(checks);
        anEmptyFlightHasNoPlace(checks);
        packetsKeepWhatTheyTellAllTheWay(checks);
        checks.end();
    }

    /** "but is lost when 24 are in flight": a report. */
    private static void the24thReportFliesAndThe25thIsLost(Checks checks) {
        DeltaPlayfield x = new DeltaPlayfield();
        Checks.fill(x, 23);
        x.input(0, 1);
        checks.yes("report as the 24th", x.report(0));
        checks.due("flight()", 24, x.flight());
        checks.due("client of the 24th", 0, x.packet(23, 0));
        String before = Checks.stateOf(x);
        checks.yes("report as the 25th", x.report(1));
        checks.same("a report that was lost", before, x);
        checks.due("deliver of the 24th", 1, x.deliver(23));
        checks.due("held by the 24th", 1, x.count(0, 3));
    }

    /** "but is lost when 24 are in flight": of the three snapshots of a tick, each for itself. */
    private static void snapshotsFlyAsFarAsThereIsRoom(Checks checks) {
        for (int before = 20; before <= 24; before++) {
            DeltaPlayfield x = new DeltaPlayfield();
            Checks.fill(x, before);
            x.tick();
            int room = Math.min(3, 24 - before);
            checks.due("flight() when there were " + before, before + room, x.flight());
            for (int c = 0; c < 3; c++) {
                checks.due("snapshot for " + c + " when there were " + before, c < room ? c : -1,
                        x.packet(before + c, 0));
                checks.due("tick of the snapshot for " + c, c < room ? 1 : -1, x.packet(before + c, 3));
            }
            for (int k = 0; k < before; k++) {
                checks.due("an old packet stays a report", 0, x.packet(k, 1));
            }
        }
    }

    private static void aTickIsDoneWhenItsSnapshotsAreLost(Checks checks) {
        DeltaPlayfield x = new DeltaPlayfield();
        x.input(0, 1);
        Checks.sendReport(x, 0);
        Checks.fill(x, 24);
        checks.due("tick()", 1, x.tick());
        checks.due("position(0)", 16, x.position(0));
        checks.due("position(3)", 7, x.position(3));
        checks.due("DONE", 1, x.count(0, 2));
        checks.due("flight()", 24, x.flight());
    }

    private static void whatIsLostDoesNotComeBack(Checks checks) {
        DeltaPlayfield x = new DeltaPlayfield();
        Checks.fill(x, 24);
        x.input(0, 1);
        x.report(0);
        x.tick();
        for (int left = 23; left >= 0; left--) {
            checks.due("client of the next report", 2, x.packet(0, 0));
            checks.due("deliver(0)", 1, x.deliver(0));
            checks.due("flight()", left, x.flight());
        }
        checks.due("held of the client whose report was lost", 0, x.count(0, 3));
        checks.due("NEWEST of a client whose snapshot was lost", 0, x.count(0, 4));
    }

    private static void whatIsTakenOutMakesRoomForOne(Checks checks) {
        for (int way = 0; way < 2; way++) {
            DeltaPlayfield x = new DeltaPlayfield();
            Checks.fill(x, 24);
            if (way == 0) {
                checks.yes("lose(7)", x.lose(7));
            } else {
                checks.due("deliver(7)", 1, x.deliver(7));
            }
            checks.due("flight()", 23, x.flight());
            checks.yes("report(1)", x.report(1));
            checks.due("client at the end", 1, x.packet(23, 0));
            checks.yes("report(0), which is lost", x.report(0));
            checks.due("client at the end", 1, x.packet(23, 0));
            checks.due("flight()", 24, x.flight());
        }
    }

    /** "What is sent is put at its end" */
    private static void whatIsSentIsPutAtTheEnd(Checks checks) {
        DeltaPlayfield x = new DeltaPlayfield();
        int[] clients = {2, 0, 1, 2, 1, 0};
        x.report(2);
        x.tick();
        x.report(1);
        x.copy(1);
        for (int k = 0; k < 6; k++) {
            checks.due("client at " + k, clients[k], x.packet(k, 0));
            checks.due("kind at " + k, k == 0 || k == 4 ? 0 : 1, x.packet(k, 1));
        }
        x.lose(2);
        x.report(2);
        int[] after = {2, 0, 2, 1, 0, 2};
        for (int k = 0; k < 6; k++) {
            checks.due("client at " + k + " then", after[k], x.packet(k, 0));
        }
    }

    private static void anEmptyFlightHasNoPlace(Checks checks) {
        States.Run emptied = x -> {
            x.input(0, 1);
            x.tick();
            Checks.loseAll(x);
        };
        for (States.Run before : new States.Run[] {States::fresh, emptied}) {
            checks.due("flight()", 0, States.after(before).flight());
            Refused.none(checks, "deliver(0) of nothing", before, x -> x.deliver(0));
            Refused.no(checks, "lose(0) of nothing", before, x -> x.lose(0));
            Refused.no(checks, "copy(0) of nothing", before, x -> x.copy(0));
            for (int which = 0; which < 6; which++) {
                int asked = which;
                Refused.none(checks, "packet(0, " + which + ") of nothing", before, x -> x.packet(0, asked));
            }
        }
    }

    /** With a full flight through which packets of all kinds go many times: none gets what another tells. */
    private static void packetsKeepWhatTheyTellAllTheWay(Checks checks) {
        DeltaPlayfield x = new DeltaPlayfield();
        x.input(0, 1);
        x.input(0, 0);
        x.report(0);
        x.tick();
        for (int i = 0; i < 25; i++) {
            for (int k = 0; k < 4; k++) {
                checks.yes("copy(0)", x.copy(0));
                checks.yes("lose(0)", x.lose(0));
            }
            x.report(1);
            x.lose(4);
        }
        int[][] want = {{0, 0, 29, 0, 2, 0}, {0, 1, 21 + 4 * 9 + 4, 1, 0, 0}, {1, 1, 21 + 4 * 9 + 4, 1, 0, 0}};
        for (int k = 0; k < want.length; k++) {
            for (int which = 0; which < 6; which++) {
                checks.due("packet(" + k + ", " + which + ")", want[k][which], x.packet(k, which));
            }
        }
        checks.due("deliver of the snapshot for 0", 1, x.deliver(1));
        checks.due("view(0, 3)", 7, x.view(0, 3));
        checks.due("view(0, 4)", -1, x.view(0, 4));
        checks.due("deliver of the report", 1, x.deliver(0));
        x.tick();
        x.tick();
        checks.due("position(0)", 17, x.position(0));
    }
}
