public final class Promise02WallTest {
    public static void main(String[] args) {
        Checks checks = new Checks();
        everyFreeSquareCanBecomeAWall(checks);
        refusesWhatIsNoSquare(checks);
        refusesWhereAnEntityStands(checks);
        refusesAfterATick(checks);
        wallsBlock(checks);
        checks.end();
    }

    private static void everyFreeSquareCanBecomeAWall(Checks checks) {
        DeltaPlayfield x = new DeltaPlayfield();
        for (int i = 16; i < 256; i++) {
            checks.yes("wall on square " + i, x.wall(i % 16, i / 16));
            checks.no("place on wall " + i, x.place(0, i % 16, i / 16, 0));
        }
        checks.yes("wall on a wall", x.wall(15, 15));
        checks.yes("wall on a wall again", x.wall(15, 15));
        checks.no("place on a wall that was made thrice", x.place(0, 15, 15, 0));
    }

    private static void refusesWhatIsNoSquare(Checks checks) {
        DeltaPlayfield x = new DeltaPlayfield();
        String before = Checks.stateOf(x);
        checks.no("wall(-1, 5)", x.wall(-1, 5));
        checks.no("wall(16, 5)", x.wall(16, 5));
        checks.no("wall(5, -1)", x.wall(5, -1));
        checks.no("wall(5, 16)", x.wall(5, 16));
        for (int far : Checks.FAR) {
            checks.no("wall(" + far + ", 5)", x.wall(far, 5));
            checks.no("wall(5, " + far + ")", x.wall(5, far));
        }
        checks.yes("wall(16, 5) is not (0, 6)", x.place(0, 0, 6, 0));
        checks.yes("wall(-1, 5) is not (15, 4)", x.place(0, 15, 4, 0));
        x.place(0, 0, 0, 0);
        checks.same("a refused wall", before, x);
    }

    private static void refusesWhereAnEntityStands(Checks checks) {
        DeltaPlayfield x = new DeltaPlayfield();
        for (int e = 0; e < 8; e++) {
            checks.no("wall under entity " + e, x.wall(2 * e, 0));
        }
        x.place(4, 9, 9, 0);
        checks.no("wall under a placed entity", x.wall(9, 9));
        checks.yes("wall where it stood", x.wall(8, 0));
        x.place(4, 9, 10, 0);
        checks.yes("a refused wall is none", x.place(0, 9, 9, 0));
    }

    private static void refusesAfterATick(Checks checks) {
        DeltaPlayfield x = new DeltaPlayfield();
        Checks.quietTick(x);
        checks.no("wall after a tick", x.wall(0, 1));
        x.input(0, 1);
        Checks.sendReport(x, 0);
        x.tick();
        checks.due("position(0) on the square refused", 16, x.position(0));
        DeltaPlayfield y = new DeltaPlayfield();
        y.wall(3, 3);
        y.tick();
        checks.no("a wall that stands, after a tick", y.wall(3, 3));
    }

    private static void wallsBlock(Checks checks) {
        DeltaPlayfield x = new DeltaPlayfield();
        x.place(0, 5, 5, 0);
        x.place(3, 5, 5, 2);
        x.wall(4, 5);
        x.input(0, 2);
        checks.due("predicted(0) beside a wall", 85, x.predicted(0));
        Checks.sendReport(x, 0);
        x.tick();
        checks.due("position(0) beside a wall", 85, x.position(0));
        checks.due("position(3) beside a wall", 85, x.position(3));
        checks.due("DONE of a blocked command", 1, x.count(0, 2));
        x.tick();
        checks.due("position(3) turned round", 86, x.position(3));
    }
}
