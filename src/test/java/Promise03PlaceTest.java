public final class Promise03PlaceTest {
    public static void main(String[] args) {
        Checks checks = new Checks();
        placesEveryEntity(checks);
        driftersTakeTheirDirection(checks);
        playersHaveNoDirection(checks);
        refusesWrongInputs(checks);
        refusesAfterATick(checks);
        checks.end();
    }

    private static void placesEveryEntity(Checks checks) {
        DeltaPlayfield x = new DeltaPlayfield();
        for (int e = 0; e < 8; e++) {
            checks.yes("place of " + e + " in the corner", x.place(e, 15, 15, 0));
            checks.due("position(" + e + ")", 255, x.position(e));
            checks.yes("place of " + e, x.place(e, 3, 9, 3));
            checks.due("position(" + e + ")", 147, x.position(e));
        }
        for (int c = 0; c < 3; c++) {
            checks.due("predicted(" + c + ")", 147, x.predicted(c));
        }
    }

    private static void driftersTakeTheirDirection(Checks checks) {
        int[] reached = {0x56, 0x65, 0x54, 0x45};
        for (int e = 3; e < 8; e++) {
            for (int d = 0; d < 4; d++) {
                DeltaPlayfield x = new DeltaPlayfield();
                checks.yes("place of drifter " + e, x.place(e, 5, 5, d));
                x.tick();
                checks.due("drifter " + e + " with direction " + d, reached[d], x.position(e));
            }
        }
    }

    private static void playersHaveNoDirection(Checks checks) {
        int[] any = {-1, 4, 0, Integer.MIN_VALUE, Integer.MAX_VALUE};
        for (int c = 0; c < 3; c++) {
            for (int d : any) {
                DeltaPlayfield x = new DeltaPlayfield();
                checks.yes("place of player " + c + " with " + d, x.place(c, 5, 5, d));
                x.tick();
                checks.due("player " + c + " after a tick", 85, x.position(c));
            }
        }
    }

    private static void refusesWrongInputs(Checks checks) {
        DeltaPlayfield x = new DeltaPlayfield();
        x.wall(5, 5);
        x.place(3, 2, 8, 1);
        String before = Checks.stateOf(x);
        checks.no("entity -1", x.place(-1, 1, 1, 0));
        checks.no("entity 8", x.place(8, 1, 1, 0));
        for (int e = 0; e < 8; e += 3) {
            checks.no("x = -1", x.place(e, -1, 1, 0));
            checks.no("x = 16", x.place(e, 16, 1, 0));
            checks.no("y = -1", x.place(e, 1, -1, 0));
            checks.no("y = 16", x.place(e, 1, 16, 0));
            checks.no("a wall", x.place(e, 5, 5, 0));
        }
        checks.no("direction -1", x.place(3, 1, 1, -1));
        checks.no("direction 4", x.place(3, 1, 1, 4));
        checks.no("a direction at a wall", x.place(3, 5, 5, 3));
        for (int far : Checks.FAR) {
            checks.no("entity " + far, x.place(far, 1, 1, 0));
            checks.no("x = " + far, x.place(0, far, 1, 0));
            checks.no("y = " + far, x.place(0, 1, far, 0));
            checks.no("direction " + far, x.place(7, 1, 1, far));
        }
        checks.same("a refused place", before, x);
        x.tick();
        checks.due("the direction of old", 9 * 16 + 2, x.position(3));
    }

    private static void refusesAfterATick(Checks checks) {
        DeltaPlayfield x = new DeltaPlayfield();
        x.tick();
        String before = Checks.stateOf(x);
        for (int e = 0; e < 8; e++) {
            checks.no("place of " + e + " after a tick", x.place(e, 1, 1, 2));
        }
        checks.same("a place after a tick", before, x);
        x.tick();
        checks.due("position(3) goes on to the right", 8, x.position(3));
    }
}
