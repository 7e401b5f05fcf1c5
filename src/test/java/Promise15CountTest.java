public final class Promise15CountTest {
    public static void main(String[] args) {
        Checks checks = new Checks();
        countsEachOfThem(checks);
        refusesWrongInputs(checks);
        checks.end();
    }

    private static void row(Checks checks, DeltaPlayfield x, int client, int... want) {
        for (int which = 0; which < 6; which++) {
            checks.due("count(" + client + ", " + which + ")", want[which], x.count(client, which));
        }
    }

    private static void countsEachOfThem(Checks checks) {
        DeltaPlayfield x = new DeltaPlayfield();
        Checks.quietTick(x);
        for (int n = 0; n < 5; n++) {
            x.input(2, 4);
        }
        row(checks, x, 2, 5, 0, 0, 0, 0, 0);
        Checks.sendReport(x, 2);
        row(checks, x, 2, 5, 0, 0, 4, 0, 0);
        x.tick();
        row(checks, x, 2, 5, 0, 1, 3, 0, 0);
        x.deliver(2);
        row(checks, x, 2, 5, 1, 1, 3, 2, 0);
        Checks.loseAll(x);
        x.report(2);
        row(checks, x, 2, 5, 1, 1, 3, 2, 0);
        x.deliver(0);
        row(checks, x, 2, 5, 1, 1, 4, 2, 2);
        x.tick();
        row(checks, x, 2, 5, 1, 2, 3, 2, 2);
        row(checks, x, 0, 0, 0, 0, 0, 0, 0);
        row(checks, x, 1, 0, 0, 0, 0, 0, 0);
    }

    private static void refusesWrongInputs(Checks checks) {
        DeltaPlayfield x = new DeltaPlayfield();
        for (int which = 0; which < 6; which++) {
            checks.due("count(-1, " + which + ")", -1, x.count(-1, which));
            checks.due("count(3, " + which + ")", -1, x.count(3, which));
        }
        for (int c = 0; c < 3; c++) {
            checks.due("count(" + c + ", -1)", -1, x.count(c, -1));
            checks.due("count(" + c + ", 6)", -1, x.count(c, 6));
        }
        for (int far : Checks.FAR) {
            checks.due("count(" + far + ", 0)", -1, x.count(far, 0));
            checks.due("count(0, " + far + ")", -1, x.count(0, far));
        }
    }
}
