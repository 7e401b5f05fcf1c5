import java.util.ArrayList;
import java.util.List;
import java.util.Random;

/** Random runs of 512 calls, with fixed seeds, on the program and on the model. */
public final class ModelTest {
    private static final int RUNS = 4000;
    private static final int CALLS = 512;

    private final Random random;
    private final DeltaPlayfield program = new DeltaPlayfield();
    private final Model model = new Model();
    private final List<String> calls = new ArrayList<>();
    private final int setUpCalls;
    private final int newestBias;
    private final int deliverWeight;

    private ModelTest(int seed) {
        random = new Random(seed);
        setUpCalls = random.nextInt(120);
        newestBias = random.nextInt(3);
        deliverWeight = 2 + random.nextInt(7);
    }

    public static void main(String[] args) {
        for (int seed = 1; seed <= RUNS; seed++) {
            if (!new ModelTest(seed).agrees()) {
                System.out.println("run with seed " + seed);
                System.exit(1);
            }
        }
        System.out.println(RUNS + " runs agree with the model");
    }

    private boolean agrees() {
        for (int i = 0; i < CALLS; i++) {
            boolean same = i < setUpCalls && random.nextInt(4) > 0 ? setUp() : random.nextInt(5) < 3 ? act() : ask();
            if (!same) {
                calls.forEach(System.out::println);
                return false;
            }
        }
        return true;
    }

    private boolean same(String call, int got, int want) {
        calls.add(call + " answered " + got + (got == want ? "" : ", by the model " + want));
        return got == want;
    }

    private boolean same(String call, boolean got, int want) {
        return same(call, got ? 1 : 0, want);
    }

    /** A number of 0 .. count - 1, seldom one beside them. */
    private int some(int count) {
        return random.nextInt(40) == 0 ? (random.nextBoolean() ? -1 : count) : random.nextInt(Math.max(count, 1));
    }

    private int somePacket() {
        int size = model.flight();
        if (newestBias > 0 && random.nextInt(3) < newestBias && size > 0) {
            return Math.max(0, size - 1 - random.nextInt(4));
        }
        return some(size);
    }

    private boolean setUp() {
        int x = some(16);
        int y = some(16);
        if (random.nextInt(4) > 0) {
            return same("wall(" + x + ", " + y + ")", program.wall(x, y), model.wall(x, y));
        }
        int e = some(8);
        int d = some(4);
        return same("place(" + e + ", " + x + ", " + y + ", " + d + ")",
                program.place(e, x, y, d), model.place(e, x, y, d));
    }

    private boolean act() {
        int choice = random.nextInt(11 + deliverWeight);
        int c = some(3);
        int k = somePacket();
        if (choice < 4) {
            int command = some(5);
            return same("input(" + c + ", " + command + ")", program.input(c, command), model.input(c, command));
        }
        if (choice < 6) {
            return same("report(" + c + ")", program.report(c), model.report(c));
        }
        if (choice < 8) {
            return same("tick()", program.tick(), model.tick());
        }
        if (choice < 9) {
            return same("copy(" + k + ")", program.copy(k), model.copy(k));
        }
        if (choice < 11) {
            return same("lose(" + k + ")", program.lose(k), model.lose(k));
        }
        return same("deliver(" + k + ")", program.deliver(k), model.deliver(k));
    }

    private boolean ask() {
        int c = some(3);
        int e = some(8);
        int which = some(6);
        int k = somePacket();
        switch (random.nextInt(8)) {
            case 0:
                return same("flight()", program.flight(), model.flight());
            case 1:
                return same("position(" + e + ")", program.position(e), model.position(e));
            case 2:
                return same("view(" + c + ", " + e + ")", program.view(c, e), model.view(c, e));
            case 3:
                return same("predicted(" + c + ")", program.predicted(c), model.predicted(c));
            case 4:
                return same("count(" + c + ", " + which + ")", program.count(c, which), model.count(c, which));
            default:
                return same("packet(" + k + ", " + which + ")", program.packet(k, which), model.packet(k, which));
        }
    }
}
