/** Edges of the sentences on the field, steps and drifters, under "Terms". */
public final class EdgesTermsFieldTest {
    private static final int[] DX = {1, 0, -1, 0};
    private static final int[] DY = {0, 1, 0, -1};

    public static void main(String[] args) {
        Checks checks = new Checks();
        squaresAreFrom0To15(checks);
        placesAreFrom0To255(checks);
        severalMayStandOnOne(checks);
        playersAreBlockedAtTheRim(checks);
        playersAreBlockedByAWall(checks);
        wallsBesideTheWayDoNotBlock(checks);
        entitiesDoNotBlock(checks);
        driftersTurnAtTheRim(checks);
        driftersTurnAtAWall(checks);
        driftersCrossTheFieldAndComeBack(checks);
        driftersBetweenWallsStay(checks);
        entitiesBeginInARow(checks);
        driftersBeginWithDirection0(checks);
        checks.end();
    }

    /** "x and y 0 .. 15" */
    private static void squaresAreFrom0To15(Checks checks) {
        DeltaPlayfield x = new DeltaPlayfield();
        for (int i = -2; i <= 17; i++) {
            boolean inside = i >= 0 && i <= 15;
            checks.due("place at x = " + i, inside ? 1 : 0, x.place(0, i, 7, 0) ? 1 : 0);
            checks.due("place at y = " + i, inside ? 1 : 0, x.place(0, 7, i, 0) ? 1 : 0);
            checks.due("wall at x = " + i, inside ? 1 : 0, x.wall(i, 3) ? 1 : 0);
            checks.due("wall at y = " + i, inside ? 1 : 0, x.wall(3, i) ? 1 : 0);
        }
    }

    /** "the PLACE of a square is x + 16 * y" */
    private static void placesAreFrom0To255(Checks checks) {
        int[][] corners = {{0, 0, 0}, {15, 0, 15}, {0, 1, 16}, {0, 15, 240}, {15, 15, 255}};
        for (int e = 0; e < 8; e++) {
            DeltaPlayfield x = new DeltaPlayfield();
            for (int[] corner : corners) {
                x.place(e, corner[0], corner[1], 0);
                checks.due("position(" + e + ") in a corner", corner[2], x.position(e));
            }
        }
    }

    /** "several may stand on one" */
    private static void severalMayStandOnOne(Checks checks) {
        DeltaPlayfield x = new DeltaPlayfield();
        for (int e = 0; e < 8; e++) {
            checks.yes("place of entity " + e + " with the others", x.place(e, 9, 9, 1));
        }
        for (int e = 0; e < 8; e++) {
            checks.due("position(" + e + ")", 153, x.position(e));
        }
        x.tick();
        for (int e = 3; e < 8; e++) {
            checks.due("position(" + e + ") after a tick", 169, x.position(e));
        }
    }

    /** A player that goes twice in a direction, from one step before the last square on which it can stand. */
    private static void goesOnceAndIsBlocked(Checks checks, String what, DeltaPlayfield x, int direction, int last) {
        checks.due(what + ": input", 1, x.input(1, direction));
        checks.due(what + ": predicted after the step", last, x.predicted(1));
        checks.due(what + ": input", 2, x.input(1, direction));
        checks.due(what + ": predicted after the blocked step", last, x.predicted(1));
        Checks.sendReport(x, 1);
        Checks.quietTick(x);
        checks.due(what + ": position after the step", last, x.position(1));
        Checks.quietTick(x);
        checks.due(what + ": position after the blocked step", last, x.position(1));
        checks.due(what + ": DONE, a blocked command too", 2, x.count(1, 2));
    }

    /** "it is BLOCKED, and goes nowhere, when that is no square of the field" */
    private static void playersAreBlockedAtTheRim(Checks checks) {
        for (int d = 0; d < 4; d++) {
            for (int i = 0; i < 16; i++) {
                int lastX = DX[d] == 0 ? i : DX[d] > 0 ? 15 : 0;
                int lastY = DY[d] == 0 ? i : DY[d] > 0 ? 15 : 0;
                DeltaPlayfield x = new DeltaPlayfield();
                x.place(1, lastX - DX[d], lastY - DY[d], 0);
                goesOnceAndIsBlocked(checks, "rim " + d + " at " + i, x, d, lastX + 16 * lastY);
            }
        }
    }

    /** "it is BLOCKED, and goes nowhere, when that is .. a wall" */
    private static void playersAreBlockedByAWall(Checks checks) {
        for (int d = 0; d < 4; d++) {
            DeltaPlayfield x = new DeltaPlayfield();
            x.place(1, 7, 8, 0);
            checks.yes("wall", x.wall(7 + 2 * DX[d], 8 + 2 * DY[d]));
            goesOnceAndIsBlocked(checks, "wall in direction " + d, x, d, 7 + DX[d] + 16 * (8 + DY[d]));
        }
    }

    private static void wallsBesideTheWayDoNotBlock(Checks checks) {
        for (int d = 0; d < 4; d++) {
            DeltaPlayfield x = new DeltaPlayfield();
            x.place(1, 7, 8, 0);
            x.place(4, 7, 8, d);
            for (int i = 0; i < 9; i++) {
                int wx = 6 + i % 3;
                int wy = 7 + i / 3;
                if (wx != 7 + DX[d] || wy != 8 + DY[d]) {
                    x.wall(wx, wy);
                }
            }
            x.input(1, d);
            int reached = 7 + DX[d] + 16 * (8 + DY[d]);
            checks.due("predicted(1) through a gap", reached, x.predicted(1));
            Checks.sendReport(x, 1);
            x.tick();
            checks.due("position(1) through a gap", reached, x.position(1));
            checks.due("position(4) through a gap", reached, x.position(4));
        }
    }

    /** "several may stand on one": who stands there does not block. */
    private static void entitiesDoNotBlock(Checks checks) {
        DeltaPlayfield x = new DeltaPlayfield();
        x.place(0, 4, 7, 0);
        x.place(1, 5, 7, 0);
        x.place(3, 6, 7, 2);
        x.input(0, 0);
        Checks.sendReport(x, 0);
        x.tick();
        checks.due("position(0) where player 1 stands", 7 * 16 + 5, x.position(0));
        checks.due("position(3) where both stand", 7 * 16 + 5, x.position(3));
        x.tick();
        checks.due("position(3) goes on", 7 * 16 + 4, x.position(3));
    }

    private static void goesTurnsAndReturns(Checks checks, String what, DeltaPlayfield x, int e, int last, int back) {
        int[] reached = {last, last, back};
        for (int i = 0; i < 3; i++) {
            Checks.quietTick(x);
            checks.due(what + ": position(" + e + ") at tick " + (i + 1), reached[i], x.position(e));
        }
    }

    /** "if that is blocked, its direction turns round (0 and 2, 1 and 3) instead", at the rim. */
    private static void driftersTurnAtTheRim(Checks checks) {
        for (int d = 0; d < 4; d++) {
            for (int i = 0; i < 16; i++) {
                int lastX = DX[d] == 0 ? i : DX[d] > 0 ? 15 : 0;
                int lastY = DY[d] == 0 ? i : DY[d] > 0 ? 15 : 0;
                int back = lastX - DX[d] + 16 * (lastY - DY[d]);
                int e = 3 + i % 5;
                DeltaPlayfield x = new DeltaPlayfield();
                x.place(e, lastX - DX[d], lastY - DY[d], d);
                goesTurnsAndReturns(checks, "rim " + d + " at " + i, x, e, lastX + 16 * lastY, back);
            }
        }
    }

    private static void driftersTurnAtAWall(Checks checks) {
        for (int d = 0; d < 4; d++) {
            DeltaPlayfield x = new DeltaPlayfield();
            x.place(5, 7, 8, d);
            checks.yes("wall", x.wall(7 + 2 * DX[d], 8 + 2 * DY[d]));
            int last = 7 + DX[d] + 16 * (8 + DY[d]);
            goesTurnsAndReturns(checks, "wall in direction " + d, x, 5, last, 7 + 16 * 8);
        }
    }

    private static void driftersCrossTheFieldAndComeBack(Checks checks) {
        DeltaPlayfield x = new DeltaPlayfield();
        x.place(3, 0, 6, 0);
        x.place(7, 9, 0, 1);
        for (int t = 1; t <= 66; t++) {
            x.tick();
            int round = t % 32;
            int at = round <= 15 ? round : 31 - round;
            checks.due("position(3) at tick " + t, at + 16 * 6, x.position(3));
            checks.due("position(7) at tick " + t, 9 + 16 * at, x.position(7));
        }
    }

    private static void driftersBetweenWallsStay(Checks checks) {
        for (int d = 0; d < 4; d++) {
            DeltaPlayfield x = new DeltaPlayfield();
            x.place(6, 7, 8, d);
            x.wall(7 + DX[d], 8 + DY[d]);
            x.wall(7 - DX[d], 8 - DY[d]);
            for (int t = 1; t <= 6; t++) {
                x.tick();
                checks.due("position(6) between walls at tick " + t, 7 + 16 * 8, x.position(6));
            }
        }
    }

    /** "At first entity e stands at (2 * e, 0)" */
    private static void entitiesBeginInARow(Checks checks) {
        for (int i = 0; i < 16; i++) {
            DeltaPlayfield x = new DeltaPlayfield();
            checks.due("a wall at (" + i + ", 0)", i % 2, x.wall(i, 0) ? 1 : 0);
        }
        DeltaPlayfield x = new DeltaPlayfield();
        checks.due("position(0)", 0, x.position(0));
        checks.due("position(7)", 14, x.position(7));
    }

    /** "each drifter has direction 0": entity 7 has one square before it, and then turns round. */
    private static void driftersBeginWithDirection0(Checks checks) {
        DeltaPlayfield x = new DeltaPlayfield();
        int[] last = {15, 15, 14};
        for (int t = 1; t <= 3; t++) {
            x.tick();
            for (int c = 0; c < 3; c++) {
                checks.due("position(" + c + "), a player's", 2 * c, x.position(c));
            }
            for (int e = 3; e < 6; e++) {
                checks.due("position(" + e + ") at tick " + t, 2 * e + t, x.position(e));
            }
            checks.due("position(7) at tick " + t, last[t - 1], x.position(7));
        }
    }
}
