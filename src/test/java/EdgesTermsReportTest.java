/** Edges of the sentences on reports, under "Terms". */
public final class EdgesTermsReportTest {
    public static void main(String[] args) {
        Checks checks = new Checks();
        tellsAtMostFourCommands(checks);
        tellsNoneWhenAllIsSeen(checks);
        tellsTheFourAfterSeen(checks);
        holdsNumbersGreaterThanDone(checks);
        aSecondReportAddsWhatIsNew(checks);
        anOldReportTakesNothingAway(checks);
        acknowledgesNewestIfThatIsNot0(checks);
        acknowledgesForItsOwnClient(checks);
        checks.end();
    }

    /** "but at most four of them", "Its size is 23 bits and 3 for each command." */
    private static void tellsAtMostFourCommands(Checks checks) {
        for (int issued = 0; issued <= 12; issued++) {
            for (int c = 0; c < 3; c++) {
                DeltaPlayfield x = new DeltaPlayfield();
                for (int n = 0; n < issued; n++) {
                    x.input(c, 1);
                }
                x.report(c);
                int told = issued < 4 ? issued : 4;
                String of = " of " + issued + " for client " + c;
                checks.due("commands told" + of, told, x.packet(0, 4));
                checks.due("size" + of, 23 + 3 * told, x.packet(0, 2));
                checks.due("deliver" + of, 1, x.deliver(0));
                checks.due("held" + of, told, x.count(c, 3));
            }
        }
    }

    /** "its commands SEEN + 1, SEEN + 2, .. up to ISSUED": none of them when both are the same. */
    private static void tellsNoneWhenAllIsSeen(Checks checks) {
        for (int seen = 0; seen <= 5; seen++) {
            DeltaPlayfield x = States.withSeen(seen);
            checks.due("SEEN", seen, x.count(0, 1));
            x.report(0);
            checks.due("commands told, all seen", 0, x.packet(0, 4));
            checks.due("size, all seen", 23, x.packet(0, 2));
            x.input(0, 1);
            x.report(0);
            checks.due("commands told, one not seen", 1, x.packet(1, 4));
            checks.due("size, one not seen", 26, x.packet(1, 2));
        }
    }

    private static void tellsTheFourAfterSeen(Checks checks) {
        int[] commands = {0, 1, 1, 0, 1, 0};
        int[] reached = {1, 17, 33, 34};
        for (int seen = 0; seen <= 20; seen += 5) {
            DeltaPlayfield x = States.withSeen(seen);
            for (int command : commands) {
                x.input(0, command);
            }
            x.report(0);
            checks.due("SEEN told", seen, x.packet(0, 5));
            checks.due("commands told", 4, x.packet(0, 4));
            x.deliver(0);
            for (int i = 0; i < 6; i++) {
                Checks.quietTick(x);
                checks.due("position(0) by command " + (seen + 1 + i), reached[Math.min(i, 3)], x.position(0));
                checks.due("DONE", seen + Math.min(i + 1, 4), x.count(0, 2));
            }
        }
    }

    /** "the server holds those of its commands whose numbers are greater than DONE" */
    private static void holdsNumbersGreaterThanDone(Checks checks) {
        DeltaPlayfield x = new DeltaPlayfield();
        for (int n = 0; n < 4; n++) {
            x.input(0, 1);
        }
        x.report(0);
        for (int done = 0; done <= 4; done++) {
            x.copy(0);
            checks.due("deliver of the report when " + done + " are done", 1, x.deliver(x.flight() - 1));
            checks.due("DONE", done, x.count(0, 2));
            checks.due("held when " + done + " are done", 4 - done, x.count(0, 3));
            x.tick();
            for (int c = 0; c < 3; c++) {
                x.lose(1);
            }
        }
        checks.due("DONE, each command once", 4, x.count(0, 2));
        checks.due("position(0)", 64, x.position(0));
    }

    private static void aSecondReportAddsWhatIsNew(Checks checks) {
        DeltaPlayfield x = new DeltaPlayfield();
        for (int n = 0; n < 12; n++) {
            x.input(0, n % 2);
        }
        Checks.sendReport(x, 0);
        checks.due("held", 4, x.count(0, 3));
        Checks.sendReport(x, 0);
        checks.due("held by the same report again", 4, x.count(0, 3));
        x.tick();
        x.deliver(0);
        Checks.loseAll(x);
        checks.due("held before the second report", 3, x.count(0, 3));
        Checks.sendReport(x, 0);
        checks.due("held after the second report", 4, x.count(0, 3));
        // Right and down by turns; command 5 is the last that was told.
        int[] reached = {17, 18, 34, 35, 35};
        for (int i = 0; i < 5; i++) {
            Checks.quietTick(x);
            checks.due("position(0) at tick " + (2 + i), reached[i], x.position(0));
            checks.due("DONE at tick " + (2 + i), Math.min(2 + i, 5), x.count(0, 2));
        }
    }

    /** A report that tells fewer commands, and comes late, does not make the server forget the others. */
    private static void anOldReportTakesNothingAway(Checks checks) {
        DeltaPlayfield x = new DeltaPlayfield();
        x.report(0);
        x.input(0, 1);
        x.report(0);
        x.input(0, 1);
        x.report(0);
        x.deliver(2);
        checks.due("held", 2, x.count(0, 3));
        x.deliver(1);
        checks.due("held after the report of one", 2, x.count(0, 3));
        x.deliver(0);
        checks.due("held after the report of none", 2, x.count(0, 3));
    }

    /** "the client has acknowledged the NEWEST that it tells, if that is not 0" */
    private static void acknowledgesNewestIfThatIsNot0(Checks checks) {
        DeltaPlayfield x = new DeltaPlayfield();
        x.report(0);
        checks.due("NEWEST told before any snapshot", 0, x.packet(0, 3));
        x.tick();
        x.deliver(1);
        x.report(0);
        checks.due("NEWEST told after one", 1, x.packet(3, 3));
        checks.due("acknowledged while it is in flight", 0, x.count(0, 5));
        x.deliver(3);
        checks.due("acknowledged", 1, x.count(0, 5));
        checks.due("deliver of the report that tells 0", 1, x.deliver(0));
        checks.due("acknowledged, and not undone", 1, x.count(0, 5));
        x.tick();
        checks.due("base", 1, x.packet(2, 4));
    }

    private static void acknowledgesForItsOwnClient(Checks checks) {
        for (int c = 0; c < 3; c++) {
            DeltaPlayfield x = new DeltaPlayfield();
            Checks.acknowledgedTick(x, c);
            for (int other = 0; other < 3; other++) {
                checks.due("acknowledged by " + other, other == c ? 1 : 0, x.count(other, 5));
            }
        }
    }
}
