/** Edges of the sentences on commands, ticks and interest, under "Terms". */
public final class EdgesTermsTickTest {
    public static void main(String[] args) {
        Checks checks = new Checks();
        nowIs0AtFirst(checks);
        nothingIsDoneWhenNothingIsHeld(checks);
        theLastHeldCommandIsDoneOnce(checks);
        oneCommandIsDoneATick(checks);
        command4Stays(checks);
        eachClientMovesItsOwnPlayer(checks);
        seesBlocksThatDifferByOne(checks);
        everyClientSeesFromItsOwnPlayer(checks);
        looksWhenTheTickIsOver(checks);
        seesItsOwnPlayer(checks);
        seesAllOrNone(checks);
        checks.end();
    }

    /** "TICKS are numbered 1, 2, ..; NOW is the number of the latest one, 0 at first." */
    private static void nowIs0AtFirst(Checks checks) {
        DeltaPlayfield x = new DeltaPlayfield();
        checks.yes("wall while NOW is 0", x.wall(0, 1));
        checks.due("the first tick", 1, x.tick());
        checks.no("wall while NOW is 1", x.wall(0, 2));
        checks.due("the second tick", 2, x.tick());
        checks.no("wall while NOW is 2", x.wall(0, 2));
    }

    /** "if the server holds its command number DONE + 1": it holds none that was only made, or only sent. */
    private static void nothingIsDoneWhenNothingIsHeld(Checks checks) {
        DeltaPlayfield x = new DeltaPlayfield();
        x.tick();
        checks.due("DONE without commands", 0, x.count(0, 2));
        x.input(0, 1);
        x.tick();
        checks.due("DONE of a command that was only made", 0, x.count(0, 2));
        x.report(0);
        x.tick();
        checks.due("DONE of a command in flight", 0, x.count(0, 2));
        checks.due("position(0)", 0, x.position(0));
        x.deliver(6);
        checks.due("DONE before the tick", 0, x.count(0, 2));
        x.tick();
        checks.due("DONE of a command that got there", 1, x.count(0, 2));
        checks.due("position(0)", 16, x.position(0));
    }

    /** "the command is held no more, and DONE grows by 1" */
    private static void theLastHeldCommandIsDoneOnce(Checks checks) {
        DeltaPlayfield x = new DeltaPlayfield();
        x.input(2, 1);
        Checks.sendReport(x, 2);
        checks.due("held", 1, x.count(2, 3));
        for (int t = 1; t <= 20; t++) {
            Checks.quietTick(x);
            checks.due("held at tick " + t, 0, x.count(2, 3));
            checks.due("DONE at tick " + t, 1, x.count(2, 2));
            checks.due("position(2) at tick " + t, 20, x.position(2));
        }
    }

    private static void oneCommandIsDoneATick(Checks checks) {
        DeltaPlayfield x = new DeltaPlayfield();
        for (int n = 0; n < 4; n++) {
            x.input(1, 1);
        }
        Checks.sendReport(x, 1);
        for (int t = 1; t <= 6; t++) {
            Checks.quietTick(x);
            int done = Math.min(t, 4);
            checks.due("DONE at tick " + t, done, x.count(1, 2));
            checks.due("held at tick " + t, 4 - done, x.count(1, 3));
            checks.due("position(1) at tick " + t, 2 + 16 * done, x.position(1));
        }
    }

    /** "a direction, or 4, which stays" */
    private static void command4Stays(Checks checks) {
        DeltaPlayfield x = new DeltaPlayfield();
        x.place(0, 7, 7, 0);
        x.input(0, 4);
        checks.due("predicted(0)", 7 * 17, x.predicted(0));
        Checks.sendReport(x, 0);
        x.tick();
        checks.due("position(0)", 7 * 17, x.position(0));
        checks.due("DONE", 1, x.count(0, 2));
        checks.due("held", 0, x.count(0, 3));
    }

    private static void eachClientMovesItsOwnPlayer(Checks checks) {
        for (int c = 0; c < 3; c++) {
            DeltaPlayfield x = new DeltaPlayfield();
            x.input(c, 1);
            Checks.sendReport(x, c);
            x.tick();
            for (int other = 0; other < 3; other++) {
                checks.due("position(" + other + ")", 2 * other + (other == c ? 16 : 0), x.position(other));
                checks.due("DONE of " + other, other == c ? 1 : 0, x.count(other, 2));
                checks.due("DONE told to " + other, other == c ? 1 : 0, x.packet(other, 5));
            }
        }
    }

    /** "neither coordinate of the blocks .. differs by more than 1", from both sides of all block edges. */
    private static void seesBlocksThatDifferByOne(Checks checks) {
        int[] brim = {0, 3, 4, 7, 8, 11, 12, 15};
        int[] block = {0, 0, 1, 1, 2, 2, 3, 3};
        for (int i = 0; i < 4096; i++) {
            int[] at = {i % 8, i / 8 % 8, i / 64 % 8, i / 512};
            DeltaPlayfield x = new DeltaPlayfield();
            x.place(0, brim[at[0]], brim[at[1]], 0);
            x.place(1, brim[at[2]], brim[at[3]], 0);
            x.tick();
            x.deliver(0);
            int across = block[at[0]] - block[at[2]];
            int down = block[at[1]] - block[at[3]];
            boolean near = across >= -1 && across <= 1 && down >= -1 && down <= 1;
            checks.due("view(0, 1) of " + x.position(1) + " from " + x.position(0),
                    near ? x.position(1) : -1, x.view(0, 1));
        }
    }

    /** Two drifters that turn at the rim, in the last block that a client sees and in the first that it does not. */
    private static void everyClientSeesFromItsOwnPlayer(Checks checks) {
        int[][] rows = {{0, 7, 8}, {1, 11, 12}, {2, 4, 3}};
        for (int[] row : rows) {
            DeltaPlayfield x = new DeltaPlayfield();
            x.place(0, 3, 15, 0);
            x.place(1, 7, 15, 0);
            x.place(2, 11, 15, 0);
            x.place(3, row[1], 15, 1);
            x.place(4, row[2], 15, 1);
            x.tick();
            x.deliver(row[0]);
            checks.due("view(" + row[0] + ", 3)", 240 + row[1], x.view(row[0], 3));
            checks.due("view(" + row[0] + ", 4)", -1, x.view(row[0], 4));
        }
    }

    /** "as both stood when the tick was over" */
    private static void looksWhenTheTickIsOver(Checks checks) {
        DeltaPlayfield x = new DeltaPlayfield();
        x.place(0, 3, 5, 0);
        x.place(1, 3, 6, 0);
        x.place(3, 8, 5, 2);
        x.place(4, 7, 5, 0);
        x.place(5, 3, 8, 1);
        x.input(1, 0);
        Checks.sendReport(x, 1);
        x.tick();
        x.deliver(0);
        x.deliver(0);
        checks.due("view(0, 3), who came into the last block", 5 * 16 + 7, x.view(0, 3));
        checks.due("view(0, 4), who went into the next one", -1, x.view(0, 4));
        checks.due("view(1, 4), for the player followed", 5 * 16 + 8, x.view(1, 4));
        checks.due("view(0, 1)", 6 * 16 + 4, x.view(0, 1));
        checks.due("view(0, 5)", 9 * 16 + 3, x.view(0, 5));
    }

    /** "(So it sees its own player.)" */
    private static void seesItsOwnPlayer(Checks checks) {
        int[] brim = {0, 3, 4, 15};
        for (int i = 0; i < 16; i++) {
            DeltaPlayfield x = new DeltaPlayfield();
            int at = brim[i % 4] + 16 * brim[i / 4];
            for (int c = 0; c < 3; c++) {
                x.place(c, at % 16, at / 16, 0);
            }
            x.tick();
            for (int c = 0; c < 3; c++) {
                x.deliver(0);
                checks.due("view(" + c + ", " + c + ")", at, x.view(c, c));
            }
        }
    }

    /** None but its own player is the least that is told, all eight are the most. */
    private static void seesAllOrNone(Checks checks) {
        DeltaPlayfield alone = States.lonely(14, 14, 1);
        alone.tick();
        checks.due("size with its own player alone", 20 + 1 + 9 + 7, alone.packet(0, 2));
        alone.deliver(0);
        DeltaPlayfield crowd = new DeltaPlayfield();
        for (int e = 0; e < 8; e++) {
            crowd.place(e, e, 5, 1);
        }
        crowd.tick();
        checks.due("size with all eight", 20 + 1 + 8 * 9, crowd.packet(0, 2));
        crowd.deliver(0);
        for (int e = 0; e < 8; e++) {
            checks.due("view(0, " + e + ") when alone", e == 0 ? 0 : -1, alone.view(0, e));
            checks.due("view(0, " + e + ") in a crowd", e + 16 * (e < 3 ? 5 : 6), crowd.view(0, e));
        }
    }
}
