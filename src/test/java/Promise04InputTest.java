public final class Promise04InputTest {
    public static void main(String[] args) {
        Checks checks = new Checks();
        numbersTheCommands(checks);
        refusesWrongInputs(checks);
        refusesTheThirteenthUnseen(checks);
        checks.end();
    }

    private static void numbersTheCommands(Checks checks) {
        DeltaPlayfield x = new DeltaPlayfield();
        for (int command = 0; command <= 4; command++) {
            for (int c = 0; c < 3; c++) {
                checks.due("input(" + c + ", " + command + ")", command + 1, x.input(c, command));
            }
        }
        checks.due("an input sends nothing", 0, x.flight());
        checks.due("an input is not held", 0, x.count(0, 3));
        checks.due("another input of client 1 alone", 6, x.input(1, 0));
        checks.due("ISSUED of client 0", 5, x.count(0, 0));
        checks.due("ISSUED of client 1", 6, x.count(1, 0));
    }

    private static void refusesWrongInputs(Checks checks) {
        DeltaPlayfield x = new DeltaPlayfield();
        String before = Checks.stateOf(x);
        checks.due("client -1", -1, x.input(-1, 0));
        checks.due("client 3", -1, x.input(3, 0));
        checks.due("command -1", -1, x.input(0, -1));
        checks.due("command 5", -1, x.input(0, 5));
        for (int far : Checks.FAR) {
            checks.due("client " + far, -1, x.input(far, 0));
            checks.due("command " + far, -1, x.input(2, far));
        }
        checks.same("a refused input", before, x);
    }

    private static void refusesTheThirteenthUnseen(Checks checks) {
        DeltaPlayfield x = new DeltaPlayfield();
        for (int n = 1; n <= 12; n++) {
            checks.due("input " + n, n, x.input(0, 1));
        }
        String before = Checks.stateOf(x);
        checks.due("input 13", -1, x.input(0, 1));
        checks.same("a refused input", before, x);
        checks.due("input of another client", 1, x.input(1, 1));

        Checks.sendReport(x, 0);
        x.tick();
        checks.due("input 13 while DONE is not seen", -1, x.input(0, 1));
        x.deliver(0);
        checks.due("input 13 when one was seen", 13, x.input(0, 1));
        checks.due("input 14", -1, x.input(0, 1));
    }
}
