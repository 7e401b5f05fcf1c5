/**
 * "A call that answers false or NONE changes nothing."
 *
 * <p>Two objects have the same calls behind them, but the refused one is made on one of them alone. Then all that
 * other calls show of them must be alike: at once, and also later, since walls, directions, what is held and what a
 * packet tells do not show at once. Each way of looking has objects of its own, so that none is used for more than
 * 512 calls.
 */
final class Refused {
    interface YesOrNo {
        boolean on(DeltaPlayfield x);
    }

    interface Number {
        int on(DeltaPlayfield x);
    }

    private interface Look {
        String at(DeltaPlayfield x);
    }

    private static final Look[] LOOKS = {
        Checks::stateOf, Refused::walls, Refused::aheadByTicks, Refused::aheadByDeliveries, Refused::aheadByCommands,
    };

    private Refused() {
    }

    static void no(Checks checks, String what, States.Run before, YesOrNo call) {
        answers(checks, what, before, x -> call.on(x) ? 1 : 0, 0);
    }

    static void none(Checks checks, String what, States.Run before, Number call) {
        answers(checks, what, before, call, DeltaPlayfield.NONE);
    }

    static void alwaysNo(Checks checks, String what, YesOrNo call) {
        for (int i = 0; i < States.RUNS.length; i++) {
            no(checks, what + ", " + States.NAMES[i], States.RUNS[i], call);
        }
    }

    static void alwaysNone(Checks checks, String what, Number call) {
        for (int i = 0; i < States.RUNS.length; i++) {
            none(checks, what + ", " + States.NAMES[i], States.RUNS[i], call);
        }
    }

    private static void answers(Checks checks, String what, States.Run before, Number call, int want) {
        for (Look look : LOOKS) {
            DeltaPlayfield tried = States.after(before);
            DeltaPlayfield spared = States.after(before);
            checks.due(what, want, call.on(tried));
            checks.alike(what + " changed something", look.at(spared), look.at(tried));
        }
    }

    /** Before tick 1, a square on which player 0 can't be placed is a wall. */
    private static String walls(DeltaPlayfield x) {
        StringBuilder text = new StringBuilder();
        for (int i = 0; i < 256; i++) {
            text.append(x.place(0, i % 16, i / 16, 0) ? '.' : '#');
        }
        return text.toString();
    }

    private static String aheadByTicks(DeltaPlayfield x) {
        StringBuilder text = new StringBuilder();
        for (int i = 0; i < 8; i++) {
            text.append(" tick").append(x.tick());
            for (int e = 0; e < 8; e++) {
                text.append(" at").append(x.position(e));
            }
        }
        return text.append(Checks.stateOf(x)).toString();
    }

    private static String aheadByDeliveries(DeltaPlayfield x) {
        StringBuilder text = new StringBuilder();
        deliverAll(text, x);
        for (int c = 0; c < 3; c++) {
            text.append(" report").append(x.report(c));
        }
        deliverAll(text, x);
        for (int i = 0; i < 5; i++) {
            text.append(" tick").append(x.tick());
        }
        return text.append(Checks.stateOf(x)).toString();
    }

    private static String aheadByCommands(DeltaPlayfield x) {
        StringBuilder text = new StringBuilder();
        for (int n = 0; n < 13; n++) {
            for (int c = 0; c < 3; c++) {
                text.append(" number").append(x.input(c, (n + c) % 5));
                text.append(" predicted").append(x.predicted(c));
            }
        }
        for (int c = 0; c < 3; c++) {
            text.append(" lose").append(x.lose(0)).append(" report").append(x.report(c));
        }
        deliverAll(text, x);
        for (int i = 0; i < 4; i++) {
            text.append(" tick").append(x.tick());
        }
        return text.append(Checks.stateOf(x)).toString();
    }

    private static void deliverAll(StringBuilder text, DeltaPlayfield x) {
        for (int left = x.flight(); left > 0; left--) {
            text.append(" deliver").append(x.deliver(0));
        }
    }
}
