/** Edges of promise 6; what a tick does is looked at in the tests of "Terms". */
public final class Edges06TickTest {
    public static void main(String[] args) {
        Checks checks = new Checks();
        isNeverRefused(checks);
        doesCommandsAndDriftersThenSnapshots(checks);
        sendsToEachClientInTurn(checks);
        goesOnWithoutClients(checks);
        checks.end();
    }

    /** "A tick. Answers NOW after it.": in every state. */
    private static void isNeverRefused(Checks checks) {
        int[] now = {0, 0, 3, 7};
        for (int i = 0; i < States.RUNS.length; i++) {
            DeltaPlayfield x = States.after(States.RUNS[i]);
            for (int t = 1; t <= 20; t++) {
                checks.due("tick() of an object that is " + States.NAMES[i], now[i] + t, x.tick());
            }
        }
    }

    /** A snapshot tells what the tick has done: DONE, the player's place and the drifters'. */
    private static void doesCommandsAndDriftersThenSnapshots(Checks checks) {
        DeltaPlayfield x = new DeltaPlayfield();
        x.input(0, 1);
        Checks.sendReport(x, 0);
        x.tick();
        checks.due("DONE told", 1, x.packet(0, 5));
        x.deliver(0);
        checks.due("view(0, 0)", 16, x.view(0, 0));
        checks.due("view(0, 3)", 7, x.view(0, 3));
    }

    private static void sendsToEachClientInTurn(Checks checks) {
        DeltaPlayfield x = new DeltaPlayfield();
        for (int t = 1; t <= 8; t++) {
            x.tick();
            for (int c = 0; c < 3; c++) {
                int k = 3 * (t - 1) + c;
                checks.due("client at " + k, c, x.packet(k, 0));
                checks.due("kind at " + k, 1, x.packet(k, 1));
                checks.due("tick at " + k, t, x.packet(k, 3));
            }
        }
        x.tick();
        checks.due("flight() after the ninth tick", 24, x.flight());
        checks.due("tick at the end", 8, x.packet(23, 3));
    }

    private static void goesOnWithoutClients(Checks checks) {
        DeltaPlayfield x = new DeltaPlayfield();
        for (int t = 1; t <= 30; t++) {
            x.tick();
        }
        for (int c = 0; c < 3; c++) {
            checks.due("position(" + c + ")", 2 * c, x.position(c));
            for (int which = 0; which < 6; which++) {
                checks.due("count(" + c + ", " + which + ")", 0, x.count(c, which));
            }
        }
    }
}
