public final class Promise12PositionTest {
    public static void main(String[] args) {
        Checks checks = new Checks();
        DeltaPlayfield x = new DeltaPlayfield();
        checks.due("position(-1)", -1, x.position(-1));
        checks.due("position(8)", -1, x.position(8));
        for (int far : Checks.FAR) {
            checks.due("position(" + far + ")", -1, x.position(far));
        }
        x.place(0, 3, 4, 0);
        x.place(7, 14, 15, 0);
        x.input(0, 1);
        checks.due("position(0)", 67, x.position(0));
        checks.due("position(7)", 254, x.position(7));
        Checks.sendReport(x, 0);
        checks.due("position(0) before the tick", 67, x.position(0));
        x.tick();
        checks.due("position(0) at the server", 83, x.position(0));
        checks.due("position(7) at the server", 255, x.position(7));
        checks.end();
    }
}
