/** Compares answers with the ones that are due, and ends a test with exit code 1 if one was wrong. */
final class Checks {
    static final int[] FAR = {Integer.MIN_VALUE, -1000, 1000, Integer.MAX_VALUE};

    private int made = 0;
    private int wrong = 0;

    void due(String call, long want, long got) {
        made++;
        if (want != got) {
            wrong++;
            System.out.println(call + " answered " + got + ", due is " + want);
        }
    }

    void yes(String call, boolean got) {
        due(call, 1, got ? 1 : 0);
    }

    void no(String call, boolean got) {
        due(call, 0, got ? 1 : 0);
    }

    /** All that can be asked of an object, as one text. */
    static String stateOf(DeltaPlayfield x) {
        StringBuilder text = new StringBuilder();
        for (int e = 0; e < 8; e++) {
            text.append(" at").append(x.position(e));
        }
        for (int c = 0; c < 3; c++) {
            text.append(" client").append(c).append(" predicted").append(x.predicted(c));
            for (int which = 0; which < 6; which++) {
                text.append(" count").append(x.count(c, which));
            }
            for (int e = 0; e < 8; e++) {
                text.append(" view").append(x.view(c, e));
            }
        }
        for (int k = 0; k < x.flight(); k++) {
            text.append(" packet");
            for (int which = 0; which < 6; which++) {
                text.append(' ').append(x.packet(k, which));
            }
        }
        return text.toString();
    }

    void same(String what, String before, DeltaPlayfield x) {
        alike(what + " changed the state", before, stateOf(x));
    }

    void alike(String otherwise, String want, String got) {
        made++;
        if (!want.equals(got)) {
            wrong++;
            System.out.println(otherwise + "\n  from" + want + "\n  to  " + got);
        }
    }

    void end() {
        System.out.println(wrong == 0 ? made + " answers are as due" : wrong + " of " + made + " answers are wrong");
        if (wrong != 0) {
            System.exit(1);
        }
    }

    static void loseAll(DeltaPlayfield x) {
        for (int left = x.flight(); left > 0; left--) {
            x.lose(0);
        }
    }

    /** A tick whose snapshots are lost. */
    static void quietTick(DeltaPlayfield x) {
        x.tick();
        loseAll(x);
    }

    /** With nothing in flight: the client's report gets to the server. */
    static void sendReport(DeltaPlayfield x, int client) {
        x.report(client);
        x.deliver(0);
    }

    /** With nothing in flight: a tick whose snapshot gets to this client alone, which then acknowledges it. */
    static void acknowledgedTick(DeltaPlayfield x, int client) {
        x.tick();
        x.deliver(client);
        loseAll(x);
        sendReport(x, client);
    }

    /** With nothing in flight: fills it with this many reports of client 2. */
    static void fill(DeltaPlayfield x, int packets) {
        for (int i = 0; i < packets; i++) {
            x.report(2);
        }
    }
}
