/** Edges of promise 4. */
public final class Edges04InputTest {
    public static void main(String[] args) {
        Checks checks = new Checks();
        clientsAreFrom0To2(checks);
        commandsAreFrom0To4(checks);
        twelveUnseenAreTheMost(checks);
        seenMakesRoomOneByOne(checks);
        neitherDoneNorHeldMakesRoom(checks);
        aRefusedCommandHasNoNumber(checks);
        checks.end();
    }

    /** "NONE when there is no such client" */
    private static void clientsAreFrom0To2(Checks checks) {
        for (int c = 0; c < 3; c++) {
            DeltaPlayfield x = new DeltaPlayfield();
            checks.due("input(" + c + ", 1)", 1, x.input(c, 1));
            for (int other = 0; other < 3; other++) {
                checks.due("ISSUED of " + other, other == c ? 1 : 0, x.count(other, 0));
            }
        }
        int[] outside = {-1, 3, 4, 7, -3};
        for (int c : outside) {
            Refused.alwaysNone(checks, "input(" + c + ", 1)", x -> x.input(c, 1));
        }
        for (int far : Checks.FAR) {
            Refused.alwaysNone(checks, "input(" + far + ", 1)", x -> x.input(far, 1));
        }
    }

    /** "NONE when there is no such .. command": "0 .. 3 or 4" */
    private static void commandsAreFrom0To4(Checks checks) {
        int[] reached = {154, 169, 152, 137, 153};
        int[] outside = {-1, 5, 6, 8, -4};
        for (int c = 0; c < 3; c++) {
            int client = c;
            for (int command = 0; command <= 4; command++) {
                DeltaPlayfield x = new DeltaPlayfield();
                x.place(c, 9, 9, 0);
                checks.due("input(" + c + ", " + command + ")", 1, x.input(c, command));
                checks.due("predicted(" + c + ") after " + command, reached[command], x.predicted(c));
                Checks.sendReport(x, c);
                x.tick();
                checks.due("position(" + c + ") after " + command, reached[command], x.position(c));
            }
            for (int command : outside) {
                Refused.alwaysNone(checks, "input(" + c + ", " + command + ")", x -> x.input(client, command));
            }
            for (int far : Checks.FAR) {
                Refused.alwaysNone(checks, "input(" + c + ", " + far + ")", x -> x.input(client, far));
            }
        }
    }

    private static void inputs(DeltaPlayfield x, int client, int count) {
        for (int n = 0; n < count; n++) {
            x.input(client, n % 5);
        }
    }

    /** "or ISSUED - SEEN is 12 already" */
    private static void twelveUnseenAreTheMost(Checks checks) {
        for (int c = 0; c < 3; c++) {
            int client = c;
            DeltaPlayfield x = new DeltaPlayfield();
            inputs(x, c, 11);
            checks.due("the 12th input of " + c, 12, x.input(c, 0));
            checks.due("ISSUED of " + c, 12, x.count(c, 0));
            for (int command = 0; command <= 4; command++) {
                int wanted = command;
                Refused.none(checks, "the 13th input of " + c, y -> inputs(y, client, 12),
                        y -> y.input(client, wanted));
            }
            checks.due("the first input of another client", 1, x.input((c + 1) % 3, 0));
        }
    }

    private static void seenMakesRoomOneByOne(Checks checks) {
        DeltaPlayfield x = new DeltaPlayfield();
        inputs(x, 0, 12);
        for (int seen = 1; seen <= 20; seen++) {
            Checks.sendReport(x, 0);
            x.tick();
            x.deliver(0);
            Checks.loseAll(x);
            checks.due("SEEN", seen, x.count(0, 1));
            checks.due("the 12th unseen input when SEEN is " + seen, 12 + seen, x.input(0, seen % 5));
            checks.due("the 13th unseen input when SEEN is " + seen, -1, x.input(0, 0));
            checks.due("ISSUED", 12 + seen, x.count(0, 0));
        }
    }

    private static void neitherDoneNorHeldMakesRoom(Checks checks) {
        DeltaPlayfield x = new DeltaPlayfield();
        inputs(x, 0, 12);
        Checks.sendReport(x, 0);
        checks.due("input while four are held", -1, x.input(0, 0));
        for (int t = 1; t <= 4; t++) {
            x.tick();
            checks.due("input while " + t + " are done and none is seen", -1, x.input(0, 0));
        }
        x.deliver(0);
        checks.due("input when the snapshot of tick 1 was taken", 13, x.input(0, 0));
        checks.due("one more", -1, x.input(0, 0));
        x.deliver(8);
        for (int n = 14; n <= 16; n++) {
            checks.due("input when the snapshot of tick 4 was taken", n, x.input(0, 0));
        }
        checks.due("one more", -1, x.input(0, 0));
    }

    private static void aRefusedCommandHasNoNumber(Checks checks) {
        DeltaPlayfield x = new DeltaPlayfield();
        checks.due("input(0, 0)", 1, x.input(0, 0));
        checks.due("input(0, 5)", -1, x.input(0, 5));
        checks.due("input(0, -1)", -1, x.input(0, -1));
        checks.due("input(3, 0)", -1, x.input(3, 0));
        checks.due("input(0, 1)", 2, x.input(0, 1));
        checks.due("predicted(0)", 17, x.predicted(0));
        x.report(0);
        checks.due("commands told", 2, x.packet(0, 4));
    }
}
