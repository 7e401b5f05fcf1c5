/** Edges of the sentences on snapshots, their bases and sizes, and on taking them, under "Terms". */
public final class EdgesTermsSnapshotTest {
    public static void main(String[] args) {
        Checks checks = new Checks();
        aBaseIsAtMostSixTicksOld(checks);
        withoutAnAcknowledgedTickThereIsNoBase(checks);
        theBaseIsTheGreatestAcknowledged(checks);
        anOldReportGivesABaseForTheSixthTick(checks);
        anOldReportGivesNoneForTheSeventh(checks);
        aNewReportGivesABaseAgain(checks);
        aBaseIsOfOneClient(checks);
        sizeWithoutABase(checks);
        sizeOfWhatWasNotSeenAtTheBase(checks);
        sizeOfWhatIsNoLongerSeen(checks);
        sizeAtTheSamePlace(checks);
        sizeOneStepOff(checks);
        sizeTwoStepsOff(checks);
        sizesGoFrom32To112(checks);
        sizeIsFromTheBaseAndNotFromTheTickBefore(checks);
        sizeFromEveryBase(checks);
        takesAGreaterTickAlone(checks);
        dropsAllThatAreOlder(checks);
        newestAndSeenAre0BeforeOneWasTaken(checks);
        seenIsTheDoneThatWasTold(checks);
        checks.end();
    }

    private static void quietTicks(DeltaPlayfield x, int ticks) {
        for (int t = 0; t < ticks; t++) {
            Checks.quietTick(x);
        }
    }

    /** "if there is one and t less it is at most 6; otherwise it has none", for bases at all places of a ring. */
    private static void aBaseIsAtMostSixTicksOld(Checks checks) {
        for (int base = 1; base <= 20; base++) {
            DeltaPlayfield x = States.lonely(14, 14, 1);
            quietTicks(x, base - 1);
            Checks.acknowledgedTick(x, 0);
            for (int age = 1; age <= 18; age++) {
                x.tick();
                String at = " of tick " + (base + age) + " when " + base + " is acknowledged";
                checks.due("base" + at, age <= 6 ? base : 0, x.packet(0, 4));
                checks.due("size" + at, age <= 6 ? 20 + 4 + 8 : 20 + 1 + 9 + 7, x.packet(0, 2));
                Checks.loseAll(x);
            }
            checks.due("the acknowledged tick", base, x.count(0, 5));
        }
    }

    /** "if there is one": tick 0 is none, though ticks 1 to 6 are at most 6 more. */
    private static void withoutAnAcknowledgedTickThereIsNoBase(Checks checks) {
        DeltaPlayfield x = States.lonely(14, 14, 1);
        for (int t = 1; t <= 8; t++) {
            Checks.sendReport(x, 0);
            checks.due("acknowledged by a report before any snapshot", 0, x.count(0, 5));
            x.tick();
            checks.due("base of tick " + t, 0, x.packet(0, 4));
            checks.due("size of tick " + t, 20 + 1 + 9 + 7, x.packet(0, 2));
            Checks.loseAll(x);
        }
    }

    /** "the greatest tick that the client has acknowledged": the reports of ticks 1, 2 and 3 come as 2, 3, 1. */
    private static void theBaseIsTheGreatestAcknowledged(Checks checks) {
        DeltaPlayfield x = new DeltaPlayfield();
        for (int t = 1; t <= 3; t++) {
            x.tick();
            x.deliver(t - 1);
            x.lose(t - 1);
            x.lose(t - 1);
            x.report(0);
        }
        x.deliver(1);
        x.tick();
        checks.due("base after the report of 2", 2, x.packet(2, 4));
        x.deliver(1);
        x.tick();
        checks.due("base after the report of 3", 3, x.packet(4, 4));
        x.deliver(0);
        x.tick();
        checks.due("base after the late report of 1", 3, x.packet(6, 4));
        checks.due("the greatest acknowledged", 3, x.count(0, 5));
    }

    /** Client 0 took tick 1, and its report of that is in flight alone; then ticks up to this one. */
    private static DeltaPlayfield withALateReport(int now) {
        DeltaPlayfield x = States.lonely(14, 14, 1);
        x.tick();
        x.deliver(0);
        Checks.loseAll(x);
        x.report(0);
        for (int t = 2; t <= now; t++) {
            x.tick();
            for (int c = 0; c < 3; c++) {
                x.lose(1);
            }
        }
        return x;
    }

    private static void anOldReportGivesABaseForTheSixthTick(Checks checks) {
        DeltaPlayfield x = withALateReport(6);
        checks.due("deliver of the report", 1, x.deliver(0));
        checks.due("acknowledged", 1, x.count(0, 5));
        x.tick();
        checks.due("base of tick 7", 1, x.packet(0, 4));
        checks.due("size of tick 7", 20 + 4 + 8, x.packet(0, 2));
    }

    private static void anOldReportGivesNoneForTheSeventh(Checks checks) {
        DeltaPlayfield x = withALateReport(7);
        checks.due("deliver of the report", 1, x.deliver(0));
        checks.due("acknowledged", 1, x.count(0, 5));
        x.tick();
        checks.due("base of tick 8", 0, x.packet(0, 4));
        checks.due("size of tick 8", 20 + 1 + 9 + 7, x.packet(0, 2));
    }

    private static void aNewReportGivesABaseAgain(Checks checks) {
        DeltaPlayfield x = withALateReport(9);
        x.deliver(0);
        Checks.acknowledgedTick(x, 0);
        x.tick();
        checks.due("base of tick 11", 10, x.packet(0, 4));
    }

    private static void aBaseIsOfOneClient(Checks checks) {
        for (int c = 0; c < 3; c++) {
            DeltaPlayfield x = new DeltaPlayfield();
            Checks.acknowledgedTick(x, c);
            x.tick();
            for (int other = 0; other < 3; other++) {
                checks.due("base for " + other + ", " + c + " has one", other == c ? 1 : 0, x.packet(other, 4));
            }
        }
    }

    /** The size of client 0's snapshot at this age of the base (tick 1), less what all but drifter 3 take. */
    private static int sizeOf3(DeltaPlayfield x, int age) {
        Checks.acknowledgedTick(x, 0);
        quietTicks(x, age - 1);
        x.tick();
        return x.packet(0, 2) - (20 + 4 + 7);
    }

    /** "1 if it does not see it at t, else 9", "or there is no base" */
    private static void sizeWithoutABase(Checks checks) {
        for (int x3 = 6; x3 <= 7; x3++) {
            DeltaPlayfield x = States.lonely(x3, 0, 0);
            x.tick();
            int want = x3 == 6 ? 9 : 1;
            checks.due("size of 3 at x = " + (x3 + 1), 20 + 1 + 9 + 6 + want, x.packet(0, 2));
        }
    }

    /** "if the client did not see it at the base .. 1 if it does not see it at t, else 9" */
    private static void sizeOfWhatWasNotSeenAtTheBase(Checks checks) {
        checks.due("from x = 9 to 8, still not seen", 1, sizeOf3(States.lonely(10, 0, 2), 1));
        checks.due("from x = 8 to 7, now seen", 9, sizeOf3(States.lonely(9, 0, 2), 1));
        checks.due("from y = 9 to 8, still not seen", 1, sizeOf3(States.lonely(0, 10, 3), 1));
        checks.due("from y = 8 to 7, now seen", 9, sizeOf3(States.lonely(0, 9, 3), 1));
    }

    /** "3 if it does not see it at t" */
    private static void sizeOfWhatIsNoLongerSeen(Checks checks) {
        checks.due("from x = 6 to 7, still seen", 4, sizeOf3(States.lonely(5, 0, 0), 1));
        checks.due("from x = 7 to 8, no longer seen", 3, sizeOf3(States.lonely(6, 0, 0), 1));
        checks.due("from y = 6 to 7, still seen", 4, sizeOf3(States.lonely(0, 5, 1), 1));
        checks.due("from y = 7 to 8, no longer seen", 3, sizeOf3(States.lonely(0, 6, 1), 1));
    }

    /** "else 1 if it stands at the same place as at the base" */
    private static void sizeAtTheSamePlace(Checks checks) {
        DeltaPlayfield walled = States.lonely(5, 5, 0);
        walled.wall(4, 5);
        walled.wall(6, 5);
        checks.due("a drifter that can't move", 1, sizeOf3(walled, 1));
        DeltaPlayfield back = States.lonely(4, 5, 0);
        back.wall(7, 5);
        checks.due("a drifter that went off and came back", 1, sizeOf3(back, 3));
    }

    /** "else 4 if it stands one step from there in some direction" */
    private static void sizeOneStepOff(Checks checks) {
        for (int d = 0; d < 4; d++) {
            checks.due("a step in direction " + d, 4, sizeOf3(States.lonely(4, 4, d), 1));
        }
        DeltaPlayfield back = States.lonely(3, 5, 0);
        back.wall(7, 5);
        checks.due("three steps with one of them back", 4, sizeOf3(back, 4));
    }

    /** "else 11": two steps off in one direction or round a corner, and more. */
    private static void sizeTwoStepsOff(Checks checks) {
        for (int d = 0; d < 4; d++) {
            checks.due("two steps in direction " + d, 11, sizeOf3(States.lonely(4, 4, d), 2));
            DeltaPlayfield x = States.lonely(14, 14, 1);
            x.place(0, 5, 5, 0);
            x.input(0, d);
            x.input(0, (d + 1) % 4);
            Checks.acknowledgedTick(x, 0);
            Checks.quietTick(x);
            x.tick();
            checks.due("a step in direction " + d + " and one to the side", 20 + 4 + 11 + 7, x.packet(0, 2));
        }
        checks.due("six steps", 11, sizeOf3(States.lonely(0, 0, 0), 6));
    }

    /** Nothing new is the least, all eight two steps off the most that a base makes. */
    private static void sizesGoFrom32To112(Checks checks) {
        DeltaPlayfield least = States.lonely(14, 14, 1);
        Checks.acknowledgedTick(least, 0);
        least.tick();
        checks.due("the least size", 20 + 4 + 8, least.packet(0, 2));
        DeltaPlayfield most = new DeltaPlayfield();
        for (int e = 0; e < 8; e++) {
            most.place(e, e, 4, 1);
        }
        for (int c = 0; c < 3; c++) {
            most.input(c, 1);
            most.input(c, 1);
            most.report(c);
        }
        most.tick();
        for (int k = 0; k < 4; k++) {
            checks.due("deliver of what is in flight", 1, most.deliver(0));
        }
        Checks.loseAll(most);
        Checks.sendReport(most, 0);
        Checks.quietTick(most);
        most.tick();
        checks.due("the base", 1, most.packet(0, 4));
        checks.due("the greatest size", 20 + 4 + 8 * 11, most.packet(0, 2));
    }

    private static void sizeIsFromTheBaseAndNotFromTheTickBefore(Checks checks) {
        DeltaPlayfield x = States.lonely(0, 0, 0);
        Checks.acknowledgedTick(x, 0);
        int[] want = {4, 11, 11, 11, 11, 11};
        for (int age = 1; age <= 6; age++) {
            x.tick();
            checks.due("size at age " + age, 20 + 4 + 7 + want[age - 1], x.packet(0, 2));
            Checks.loseAll(x);
        }
    }

    /** Drifter 3 goes to and fro along the upper rim, of which client 0 sees the left half. */
    private static void sizeFromEveryBase(Checks checks) {
        for (int base = 1; base <= 36; base++) {
            DeltaPlayfield x = States.lonely(0, 0, 0);
            quietTicks(x, base - 1);
            Checks.acknowledgedTick(x, 0);
            for (int t = base + 1; t <= base + 6; t++) {
                x.tick();
                checks.due("base of tick " + t, base, x.packet(0, 4));
                checks.due("size of tick " + t + " from " + base, 20 + 4 + 7 + bits(toAndFro(base), toAndFro(t)),
                        x.packet(0, 2));
                Checks.loseAll(x);
            }
        }
    }

    private static int toAndFro(int tick) {
        return tick % 32 < 16 ? tick % 32 : 31 - tick % 32;
    }

    private static int bits(int was, int is) {
        if (was > 7) {
            return is > 7 ? 1 : 9;
        }
        return is > 7 ? 3 : is == was ? 1 : is == was + 1 || is == was - 1 ? 4 : 11;
    }

    /** "whose tick is greater than the tick of every one that it took before TAKES it, and drops it otherwise" */
    private static void takesAGreaterTickAlone(Checks checks) {
        for (int c = 0; c < 3; c++) {
            DeltaPlayfield x = new DeltaPlayfield();
            x.place(4, 6, 3, 1);
            x.tick();
            x.tick();
            x.tick();
            x.copy(3 + c);
            checks.due("deliver of tick 2", 1, x.deliver(3 + c));
            String taken = views(x, c);
            checks.due("deliver of tick 1, less by one", 0, x.deliver(c));
            checks.alike("tick 1 was taken", taken, views(x, c));
            checks.due("deliver of tick 2, equal", 0, x.deliver(7));
            checks.alike("tick 2 was taken again", taken, views(x, c));
            checks.due("flight without the dropped ones", 7, x.flight());
            checks.due("deliver of tick 3, greater by one", 1, x.deliver(4 + c));
            checks.due("NEWEST", 3, x.count(c, 4));
            checks.due("view(c, 4)", 6 + 16 * 6, x.view(c, 4));
        }
    }

    private static String views(DeltaPlayfield x, int client) {
        StringBuilder text = new StringBuilder();
        for (int e = 0; e < 8; e++) {
            text.append(' ').append(x.view(client, e));
        }
        return text.append(" SEEN ").append(x.count(client, 1)).append(" NEWEST ").append(x.count(client, 4))
                .append(" predicted ").append(x.predicted(client)).toString();
    }

    private static void dropsAllThatAreOlder(Checks checks) {
        DeltaPlayfield x = new DeltaPlayfield();
        x.input(0, 1);
        Checks.sendReport(x, 0);
        for (int t = 1; t <= 8; t++) {
            x.tick();
        }
        checks.due("deliver of tick 1, greater than none", 1, x.deliver(0));
        checks.due("deliver of tick 8", 1, x.deliver(20));
        String taken = views(x, 0);
        for (int t = 2; t <= 7; t++) {
            checks.due("deliver of tick " + t, 0, x.deliver(2 * t - 2));
            checks.alike("tick " + t + " was taken", taken, views(x, 0));
        }
        checks.due("flight()", 16, x.flight());
    }

    /** "both are 0 before it took one" */
    private static void newestAndSeenAre0BeforeOneWasTaken(Checks checks) {
        DeltaPlayfield x = new DeltaPlayfield();
        x.input(0, 1);
        Checks.sendReport(x, 0);
        x.tick();
        x.tick();
        checks.due("DONE", 1, x.count(0, 2));
        checks.due("SEEN while the snapshots are in flight", 0, x.count(0, 1));
        checks.due("NEWEST while the snapshots are in flight", 0, x.count(0, 4));
        x.deliver(1);
        checks.due("SEEN when another client took one", 0, x.count(0, 1));
        checks.due("NEWEST when another client took one", 0, x.count(0, 4));
        x.deliver(0);
        checks.due("SEEN when it took one", 1, x.count(0, 1));
        checks.due("NEWEST when it took one", 1, x.count(0, 4));
    }

    /** "SEEN the DONE that this one tells" */
    private static void seenIsTheDoneThatWasTold(Checks checks) {
        DeltaPlayfield x = new DeltaPlayfield();
        for (int n = 0; n < 3; n++) {
            x.input(0, 1);
        }
        Checks.sendReport(x, 0);
        x.tick();
        x.tick();
        x.tick();
        for (int t = 1; t <= 3; t++) {
            x.deliver(2 * t - 2);
            checks.due("SEEN after the snapshot of tick " + t, t, x.count(0, 1));
            checks.due("DONE, for all that", 3, x.count(0, 2));
            checks.due("view(0, 0) after the snapshot of tick " + t, 16 * t, x.view(0, 0));
        }
    }
}
