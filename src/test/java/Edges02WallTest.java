/** Edges of promise 2. */
public final class Edges02WallTest {
    public static void main(String[] args) {
        Checks checks = new Checks();
        aWallCanBeMadeAgain(checks);
        theLastSquaresInsideAndTheFirstOutside(checks);
        noEntityMayStandOnIt(checks);
        whereAnEntityStoodIsFree(checks);
        nowMustBe0(checks);
        aRefusedWallBlocksNobody(checks);
        checks.end();
    }

    /** "(also if it is one)" */
    private static void aWallCanBeMadeAgain(Checks checks) {
        DeltaPlayfield x = new DeltaPlayfield();
        for (int i = 0; i < 3; i++) {
            checks.yes("wall(9, 9)", x.wall(9, 9));
            checks.no("place on it", x.place(1, 9, 9, 0));
        }
        checks.yes("place beside it", x.place(1, 8, 9, 0));
        checks.yes("wall(9, 9) once more", x.wall(9, 9));
    }

    /** "False when it is no square" */
    private static void theLastSquaresInsideAndTheFirstOutside(Checks checks) {
        DeltaPlayfield x = new DeltaPlayfield();
        int[][] inside = {{0, 1}, {15, 0}, {15, 1}, {0, 15}, {15, 15}, {1, 0}};
        for (int[] at : inside) {
            checks.yes("wall(" + at[0] + ", " + at[1] + ")", x.wall(at[0], at[1]));
            checks.no("place on it", x.place(0, at[0], at[1], 0));
        }
        int[][] outside = {
            {-1, 0}, {0, -1}, {-1, -1}, {16, 0}, {0, 16}, {16, 16}, {-1, 15}, {15, -1}, {16, 15}, {15, 16},
            {16, -1}, {-16, 1}, {-1, 1}, {17, 2}, {256, 0}, {0, 256}, {31, -1},
        };
        for (int[] at : outside) {
            Refused.alwaysNo(checks, "wall(" + at[0] + ", " + at[1] + ")", y -> y.wall(at[0], at[1]));
        }
        for (int far : Checks.FAR) {
            Refused.alwaysNo(checks, "wall(" + far + ", 5)", y -> y.wall(far, 5));
            Refused.alwaysNo(checks, "wall(5, " + far + ")", y -> y.wall(5, far));
        }
    }

    /** "an entity stands on it" */
    private static void noEntityMayStandOnIt(Checks checks) {
        for (int e = 0; e < 8; e++) {
            int entity = e;
            Refused.no(checks, "wall under entity " + e, States::fresh, x -> x.wall(2 * entity, 0));
            States.Run placed = x -> x.place(entity, 11, 12, 2);
            Refused.no(checks, "wall under the placed entity " + e, placed, x -> x.wall(11, 12));
        }
        DeltaPlayfield x = new DeltaPlayfield();
        x.place(2, 11, 12, 0);
        checks.yes("wall to the right of it", x.wall(12, 12));
        checks.yes("wall to the left of it", x.wall(10, 12));
        checks.yes("wall below it", x.wall(11, 13));
        checks.yes("wall above it", x.wall(11, 11));
    }

    private static void whereAnEntityStoodIsFree(Checks checks) {
        DeltaPlayfield x = new DeltaPlayfield();
        for (int e = 0; e < 8; e++) {
            x.place(e, 11, 12, 0);
            checks.yes("wall where entity " + e + " stood", x.wall(2 * e, 0));
        }
        for (int e = 0; e < 7; e++) {
            x.place(e, 3, 3, 0);
            checks.no("wall while entity " + (e + 1) + " still stands there", x.wall(11, 12));
        }
        x.place(7, 3, 3, 0);
        checks.yes("wall when all have left", x.wall(11, 12));
    }

    /** "or NOW is not 0" */
    private static void nowMustBe0(Checks checks) {
        DeltaPlayfield x = new DeltaPlayfield();
        x.input(0, 1);
        x.report(0);
        checks.yes("wall while NOW is 0, with a packet in flight", x.wall(9, 9));
        for (int t = 1; t <= 3; t++) {
            x.tick();
            checks.no("wall while NOW is " + t, x.wall(8, 9));
            checks.no("wall on a wall while NOW is " + t, x.wall(9, 9));
        }
        States.Run ticked = y -> {
            y.wall(9, 9);
            y.tick();
        };
        Refused.no(checks, "wall(8, 9) after a tick", ticked, y -> y.wall(8, 9));
        Refused.no(checks, "wall(9, 9) after a tick", ticked, y -> y.wall(9, 9));
        Refused.no(checks, "wall(1, 0) after a tick", ticked, y -> y.wall(1, 0));
    }

    /** After a tick a wall shows only to who walks there. */
    private static void aRefusedWallBlocksNobody(Checks checks) {
        DeltaPlayfield x = new DeltaPlayfield();
        x.place(0, 5, 5, 0);
        x.place(3, 5, 9, 0);
        x.tick();
        checks.no("wall before the player", x.wall(6, 5));
        checks.no("wall before the drifter", x.wall(7, 9));
        x.input(0, 0);
        checks.due("predicted(0) through the refused wall", 86, x.predicted(0));
        x.report(0);
        x.deliver(3);
        x.tick();
        checks.due("position(0) through the refused wall", 86, x.position(0));
        checks.due("position(3) through the refused wall", 7 + 16 * 9, x.position(3));
    }
}
