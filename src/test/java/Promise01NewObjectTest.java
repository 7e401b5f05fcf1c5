public final class Promise01NewObjectTest {
    public static void main(String[] args) {
        Checks checks = new Checks();
        allIsAtItsBeginning(checks);
        noSquareIsAWall(checks);
        driftersGoRight(checks);
        objectsShareNothing(checks);
        checks.due("NONE", -1, DeltaPlayfield.NONE);
        checks.end();
    }

    private static void allIsAtItsBeginning(Checks checks) {
        DeltaPlayfield x = new DeltaPlayfield();
        checks.due("flight()", 0, x.flight());
        for (int e = 0; e < 8; e++) {
            checks.due("position(" + e + ")", 2 * e, x.position(e));
        }
        for (int c = 0; c < 3; c++) {
            checks.due("predicted(" + c + ")", 2 * c, x.predicted(c));
            for (int which = 0; which < 6; which++) {
                checks.due("count(" + c + ", " + which + ")", 0, x.count(c, which));
            }
            for (int e = 0; e < 8; e++) {
                checks.due("view(" + c + ", " + e + ")", -1, x.view(c, e));
            }
        }
        checks.due("tick()", 1, x.tick());
    }

    private static void noSquareIsAWall(Checks checks) {
        DeltaPlayfield x = new DeltaPlayfield();
        for (int i = 0; i < 256; i++) {
            checks.yes("place on square " + i, x.place(0, i % 16, i / 16, 0));
        }
    }

    private static void driftersGoRight(Checks checks) {
        DeltaPlayfield x = new DeltaPlayfield();
        x.tick();
        for (int e = 3; e < 8; e++) {
            checks.due("position(" + e + ") after a tick", 2 * e + 1, x.position(e));
        }
    }

    private static void objectsShareNothing(Checks checks) {
        DeltaPlayfield used = new DeltaPlayfield();
        String before = Checks.stateOf(new DeltaPlayfield());
        used.wall(5, 5);
        used.place(3, 7, 7, 1);
        used.input(0, 1);
        used.report(0);
        used.tick();
        DeltaPlayfield x = new DeltaPlayfield();
        checks.same("use of another object", before, x);
        checks.yes("place where another object has a wall", x.place(0, 5, 5, 0));
    }
}
