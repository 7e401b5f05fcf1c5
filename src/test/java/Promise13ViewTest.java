public final class Promise13ViewTest {
    public static void main(String[] args) {
        Checks checks = new Checks();
        showsTheLatestTaken(checks);
        forgetsWhoIsNotTold(checks);
        refusesWrongInputs(checks);
        checks.end();
    }

    private static void showsTheLatestTaken(Checks checks) {
        DeltaPlayfield x = new DeltaPlayfield();
        x.tick();
        checks.due("view(2, 2) before a snapshot was taken", -1, x.view(2, 2));
        x.deliver(2);
        int[] first = {0, 2, 4, 7, 9, 11, -1, -1};
        for (int e = 0; e < 8; e++) {
            checks.due("view(2, " + e + ")", first[e], x.view(2, e));
        }
        x.tick();
        x.tick();
        for (int e = 0; e < 8; e++) {
            checks.due("view(2, " + e + ") of old", first[e], x.view(2, e));
        }
        x.deliver(7);
        int[] third = {0, 2, 4, 9, 11, -1, -1, -1};
        for (int e = 0; e < 8; e++) {
            checks.due("view(2, " + e + ")", third[e], x.view(2, e));
        }
        checks.due("view(0, 0), who took none", -1, x.view(0, 0));
    }

    private static void forgetsWhoIsNotTold(Checks checks) {
        DeltaPlayfield x = new DeltaPlayfield();
        x.place(3, 6, 0, 0);
        Checks.acknowledgedTick(x, 0);
        checks.due("view(0, 3)", 7, x.view(0, 3));
        x.tick();
        x.deliver(0);
        checks.due("view(0, 3) out of sight", -1, x.view(0, 3));
    }

    private static void refusesWrongInputs(Checks checks) {
        DeltaPlayfield x = new DeltaPlayfield();
        x.tick();
        for (int c = 0; c < 3; c++) {
            x.deliver(0);
        }
        for (int i = 0; i < 8; i++) {
            checks.due("view(-1, " + i + ")", -1, x.view(-1, i));
            checks.due("view(3, " + i + ")", -1, x.view(3, i));
        }
        for (int c = 0; c < 3; c++) {
            checks.due("view(" + c + ", -1)", -1, x.view(c, -1));
            checks.due("view(" + c + ", 8)", -1, x.view(c, 8));
        }
        for (int far : Checks.FAR) {
            checks.due("view(" + far + ", 0)", -1, x.view(far, 0));
            checks.due("view(0, " + far + ")", -1, x.view(0, far));
        }
    }
}
