/** Edges of promise 3. */
public final class Edges03PlaceTest {
    public static void main(String[] args) {
        Checks checks = new Checks();
        entitiesAreFrom0To7(checks);
        squaresAreInsideTheField(checks);
        noWallMayBeThere(checks);
        directionsOfDriftersAreFrom0To3(checks);
        directionsOfPlayersAreNotLookedAt(checks);
        nowMustBe0(checks);
        aRefusedPlaceKeepsTheDirection(checks);
        anEntityCanBePlacedWhereItStands(checks);
        checks.end();
    }

    /** "False when there is no such entity" */
    private static void entitiesAreFrom0To7(Checks checks) {
        for (int e = 0; e < 8; e++) {
            DeltaPlayfield x = new DeltaPlayfield();
            checks.yes("place of entity " + e, x.place(e, 9, 9, 1));
            for (int other = 0; other < 8; other++) {
                checks.due("position(" + other + ")", other == e ? 153 : 2 * other, x.position(other));
            }
        }
        int[] outside = {-1, 8, 9, -8, 16};
        for (int e : outside) {
            Refused.alwaysNo(checks, "place of entity " + e, x -> x.place(e, 9, 9, 1));
        }
        for (int far : Checks.FAR) {
            Refused.alwaysNo(checks, "place of entity " + far, x -> x.place(far, 9, 9, 1));
        }
    }

    /** "(x, y) is no square" */
    private static void squaresAreInsideTheField(Checks checks) {
        int[][] inside = {{0, 0}, {15, 0}, {0, 15}, {15, 15}};
        int[][] outside = {
            {-1, 0}, {0, -1}, {16, 0}, {0, 16}, {-1, 15}, {15, -1}, {16, 15}, {15, 16}, {16, -1}, {-16, 1}, {31, -1},
        };
        for (int e = 0; e < 8; e++) {
            int entity = e;
            DeltaPlayfield x = new DeltaPlayfield();
            for (int[] at : inside) {
                checks.yes("place in a corner", x.place(e, at[0], at[1], 0));
                checks.due("position in a corner", at[0] + 16 * at[1], x.position(e));
            }
            for (int[] at : outside) {
                String what = "place of " + e + " at (" + at[0] + ", " + at[1] + ")";
                Refused.no(checks, what, States::setUp, y -> y.place(entity, at[0], at[1], 1));
            }
            for (int far : Checks.FAR) {
                Refused.no(checks, "place of " + e + " at x = " + far, States::setUp, y -> y.place(entity, far, 5, 1));
                Refused.no(checks, "place of " + e + " at y = " + far, States::setUp, y -> y.place(entity, 5, far, 1));
            }
        }
    }

    /** "or a wall" */
    private static void noWallMayBeThere(Checks checks) {
        States.Run walled = x -> x.wall(9, 9);
        for (int e = 0; e < 8; e++) {
            int entity = e;
            Refused.no(checks, "place of " + e + " on a wall", walled, x -> x.place(entity, 9, 9, 2));
            DeltaPlayfield x = States.after(walled);
            checks.yes("place to the right of it", x.place(e, 10, 9, 0));
            checks.yes("place to the left of it", x.place(e, 8, 9, 0));
            checks.yes("place below it", x.place(e, 9, 10, 0));
            checks.yes("place above it", x.place(e, 9, 8, 0));
        }
    }

    /** "a drifter's direction is not 0 .. 3" */
    private static void directionsOfDriftersAreFrom0To3(Checks checks) {
        int[] reached = {154, 169, 152, 137};
        int[] outside = {-1, 4, 5, 8, -4};
        for (int e = 3; e < 8; e++) {
            int entity = e;
            for (int d = 0; d < 4; d++) {
                DeltaPlayfield x = new DeltaPlayfield();
                checks.yes("place of drifter " + e + " with " + d, x.place(e, 9, 9, d));
                x.tick();
                checks.due("position(" + e + ") with " + d, reached[d], x.position(e));
            }
            for (int d : outside) {
                Refused.no(checks, "drifter " + e + " with " + d, States::setUp, x -> x.place(entity, 9, 9, d));
            }
            for (int far : Checks.FAR) {
                Refused.no(checks, "drifter " + e + " with " + far, States::setUp, x -> x.place(entity, 9, 9, far));
            }
        }
    }

    /** "(a player has none, and direction is not looked at)": entity 2 is the last player, 3 the first drifter. */
    private static void directionsOfPlayersAreNotLookedAt(Checks checks) {
        int[] any = {-1, 0, 3, 4, 5, Integer.MIN_VALUE, Integer.MAX_VALUE};
        for (int c = 0; c < 3; c++) {
            for (int d : any) {
                DeltaPlayfield x = new DeltaPlayfield();
                checks.yes("place of player " + c + " with " + d, x.place(c, 9, 9, d));
                checks.due("position(" + c + ")", 153, x.position(c));
                checks.due("predicted(" + c + ")", 153, x.predicted(c));
                x.tick();
                checks.due("position(" + c + ") after a tick", 153, x.position(c));
            }
        }
    }

    /** "or NOW is not 0" */
    private static void nowMustBe0(Checks checks) {
        DeltaPlayfield x = new DeltaPlayfield();
        x.input(0, 4);
        x.report(0);
        checks.yes("place while NOW is 0, with a packet in flight", x.place(0, 9, 9, 0));
        States.Run ticked = DeltaPlayfield::tick;
        for (int e = 0; e < 8; e++) {
            int entity = e;
            Refused.no(checks, "place of " + e + " while NOW is 1", ticked, y -> y.place(entity, 9, 9, 2));
            Refused.no(checks, "place of " + e + " while NOW is 3", States::busy, y -> y.place(entity, 9, 9, 3));
        }
    }

    /** A direction shows only at the next tick. */
    private static void aRefusedPlaceKeepsTheDirection(Checks checks) {
        for (int e = 3; e < 8; e++) {
            DeltaPlayfield x = new DeltaPlayfield();
            x.wall(3, 3);
            x.place(e, 9, 9, 1);
            checks.no("place on a wall", x.place(e, 3, 3, 2));
            checks.no("place outside", x.place(e, 16, 3, 2));
            checks.no("place with no direction", x.place(e, 4, 4, 4));
            checks.due("position(" + e + ")", 153, x.position(e));
            x.tick();
            checks.due("position(" + e + ") after a tick", 169, x.position(e));
            checks.no("place after a tick", x.place(e, 9, 10, 3));
            x.tick();
            checks.due("position(" + e + ") after two ticks", 185, x.position(e));
        }
    }

    private static void anEntityCanBePlacedWhereItStands(Checks checks) {
        DeltaPlayfield x = new DeltaPlayfield();
        for (int e = 0; e < 8; e++) {
            checks.yes("place of " + e + " where it stands", x.place(e, 2 * e, 0, 1));
            checks.due("position(" + e + ")", 2 * e, x.position(e));
        }
        x.tick();
        for (int e = 3; e < 8; e++) {
            checks.due("position(" + e + ") in its new direction", 16 + 2 * e, x.position(e));
        }
    }
}
