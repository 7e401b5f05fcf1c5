public final class Promise06TickTest {
    public static void main(String[] args) {
        Checks checks = new Checks();
        numbersTheTicks(checks);
        doesOneCommandATick(checks);
        driftersTurnRound(checks);
        sendsThreeSnapshots(checks);
        looksWhenTheTickIsOver(checks);
        seesTheBlocksAround(checks);
        tellsTheSize(checks);
        forgetsABaseAfterSixTicks(checks);
        losesWhatHasNoRoom(checks);
        checks.end();
    }

    private static void numbersTheTicks(Checks checks) {
        DeltaPlayfield x = new DeltaPlayfield();
        for (int t = 1; t <= 100; t++) {
            checks.due("tick()", t, x.tick());
        }
    }

    private static void doesOneCommandATick(Checks checks) {
        DeltaPlayfield x = new DeltaPlayfield();
        int[] commands = {1, 0, 4, 3};
        int[] reached = {16, 17, 17, 1};
        for (int command : commands) {
            x.input(0, command);
        }
        x.input(1, 2);
        Checks.sendReport(x, 0);
        for (int n = 1; n <= 4; n++) {
            Checks.quietTick(x);
            checks.due("position(0) after tick " + n, reached[n - 1], x.position(0));
            checks.due("DONE", n, x.count(0, 2));
            checks.due("held", 4 - n, x.count(0, 3));
            checks.due("position(1), whose command was not sent", 2, x.position(1));
        }
        Checks.quietTick(x);
        checks.due("DONE with no command left", 4, x.count(0, 2));
        checks.due("position(0) with no command left", 1, x.position(0));
    }

    private static void driftersTurnRound(Checks checks) {
        DeltaPlayfield x = new DeltaPlayfield();
        x.place(3, 15, 7, 0);
        x.place(4, 7, 15, 1);
        x.place(5, 0, 7, 2);
        x.place(6, 7, 0, 3);
        x.place(7, 3, 3, 0);
        x.wall(4, 3);
        x.wall(2, 3);
        int[][] reached = {
            {127, 247, 112, 7, 51},
            {126, 231, 113, 23, 51},
            {125, 215, 114, 39, 51},
        };
        for (int[] row : reached) {
            x.tick();
            for (int i = 0; i < 5; i++) {
                checks.due("position(" + (3 + i) + ")", row[i], x.position(3 + i));
            }
        }
    }

    private static void sendsThreeSnapshots(Checks checks) {
        DeltaPlayfield x = new DeltaPlayfield();
        x.report(2);
        x.tick();
        checks.due("flight()", 4, x.flight());
        for (int c = 0; c < 3; c++) {
            checks.due("client of the snapshot", c, x.packet(1 + c, 0));
            checks.due("kind of the snapshot", 1, x.packet(1 + c, 1));
            checks.due("tick of the snapshot", 1, x.packet(1 + c, 3));
        }
    }

    private static void looksWhenTheTickIsOver(Checks checks) {
        DeltaPlayfield x = new DeltaPlayfield();
        x.place(0, 3, 1, 0);
        x.place(1, 7, 9, 0);
        x.place(2, 4, 9, 0);
        x.place(3, 8, 1, 2);
        x.place(4, 7, 1, 0);
        x.input(0, 0);
        x.input(1, 0);
        x.input(2, 2);
        for (int c = 0; c < 3; c++) {
            Checks.sendReport(x, c);
        }
        x.tick();
        x.deliver(0);
        x.deliver(0);
        x.deliver(0);
        checks.due("view(0, 3), who came near", 16 + 7, x.view(0, 3));
        checks.due("view(0, 4), whom the player followed", 16 + 8, x.view(0, 4));
        checks.due("view(1, 2), who went away", -1, x.view(1, 2));
        checks.due("view(2, 1), who went away", -1, x.view(2, 1));
    }

    private static void seesTheBlocksAround(Checks checks) {
        for (int at = 0; at < 256; at++) {
            DeltaPlayfield x = new DeltaPlayfield();
            x.place(0, 6, 9, 0);
            x.place(1, at % 16, at / 16, 0);
            x.tick();
            x.deliver(0);
            boolean near = at % 16 < 12 && at / 16 >= 4;
            checks.due("view(0, 1) of square " + at, near ? at : -1, x.view(0, 1));
        }
    }

    /** Client 0 in the corner, all others far off, but for what a row tells of drifter 3. */
    private static DeltaPlayfield lonely(int x3, int y3, int direction) {
        DeltaPlayfield x = new DeltaPlayfield();
        for (int e = 1; e < 8; e++) {
            x.place(e, 14, 14, 1);
        }
        x.place(0, 0, 0, 0);
        x.place(3, x3, y3, direction);
        return x;
    }

    private static void tellsTheSize(Checks checks) {
        sizeAt(checks, "not seen, without a base", lonely(14, 14, 1), 0, 21 + 9 + 6 + 1);
        sizeAt(checks, "seen, without a base", lonely(1, 1, 0), 0, 21 + 9 + 6 + 9);
        sizeAt(checks, "not seen, and not at the base", lonely(14, 14, 1), 1, 24 + 1 + 6 + 1);
        sizeAt(checks, "seen, and not at the base", lonely(9, 1, 2), 1, 24 + 1 + 6 + 9);
        sizeAt(checks, "seen at the base alone", lonely(6, 1, 0), 1, 24 + 1 + 6 + 3);
        for (int d = 0; d < 4; d++) {
            sizeAt(checks, "a step from the base in direction " + d, lonely(3, 3, d), 1, 24 + 1 + 6 + 4);
            sizeAt(checks, "two steps from the base", lonely(3, 3, d), 2, 24 + 1 + 6 + 11);
        }
        for (int age = 1; age <= 6; age++) {
            int own = age == 6 ? 3 : age == 1 ? 4 : 11;
            sizeAt(checks, "seen at the base " + age + " ticks ago", lonely(1, 1, 0), age, 24 + 1 + 6 + own);
        }
        DeltaPlayfield blocked = lonely(1, 1, 0);
        blocked.wall(2, 1);
        blocked.wall(0, 1);
        sizeAt(checks, "at the same place", blocked, 1, 24 + 1 + 6 + 1);
        DeltaPlayfield returned = lonely(1, 1, 0);
        returned.wall(4, 1);
        sizeAt(checks, "back at the place of the base", returned, 3, 24 + 1 + 6 + 1);
        sizeAroundACorner(checks);
    }

    /** With an age above 0, tick 1 is the base and the snapshot that many ticks later is looked at. */
    private static void sizeAt(Checks checks, String what, DeltaPlayfield x, int age, int want) {
        if (age > 0) {
            Checks.acknowledgedTick(x, 0);
        }
        for (int i = 1; i < age; i++) {
            Checks.quietTick(x);
        }
        x.tick();
        checks.due("base: " + what, age > 0 ? 1 : 0, x.packet(0, 4));
        checks.due("size: " + what, want, x.packet(0, 2));
    }

    /** A player that went right and down is two steps off, though by one in each coordinate. */
    private static void sizeAroundACorner(Checks checks) {
        DeltaPlayfield x = lonely(14, 14, 1);
        x.input(0, 0);
        x.input(0, 1);
        Checks.acknowledgedTick(x, 0);
        Checks.quietTick(x);
        x.tick();
        checks.due("position(0)", 17, x.position(0));
        checks.due("size: right and down", 24 + 11 + 7, x.packet(0, 2));
    }

    private static void forgetsABaseAfterSixTicks(Checks checks) {
        DeltaPlayfield x = new DeltaPlayfield();
        x.tick();
        Checks.loseAll(x);
        Checks.acknowledgedTick(x, 1);
        for (int t = 3; t <= 12; t++) {
            x.tick();
            checks.due("base of client 0 at " + t, 0, x.packet(0, 4));
            checks.due("base of client 1 at " + t, t <= 8 ? 2 : 0, x.packet(1, 4));
            checks.due("base of client 2 at " + t, 0, x.packet(2, 4));
            Checks.loseAll(x);
        }
        checks.due("the tick is acknowledged for all that", 2, x.count(1, 5));
    }

    private static void losesWhatHasNoRoom(Checks checks) {
        for (int full = 20; full <= 24; full++) {
            DeltaPlayfield x = new DeltaPlayfield();
            Checks.fill(x, full);
            checks.due("tick()", 1, x.tick());
            checks.due("flight()", Math.min(24, full + 3), x.flight());
            for (int k = full; k < x.flight(); k++) {
                checks.due("client of the snapshot", k - full, x.packet(k, 0));
            }
            checks.due("position(3)", 7, x.position(3));
        }
    }
}
