import java.util.ArrayList;
import java.util.Arrays;
import java.util.HashSet;
import java.util.List;
import java.util.Set;
import java.util.TreeMap;

/** The document once more, word by word: nothing is used again, nothing is forgotten. */
final class Model {
    static final class Spot {
        final int x;
        final int y;

        Spot(int x, int y) {
            this.x = x;
            this.y = y;
        }

        int place() {
            return x + 16 * y;
        }

        Spot next(int direction) {
            switch (direction) {
                case 0: return new Spot(x + 1, y);
                case 1: return new Spot(x, y + 1);
                case 2: return new Spot(x - 1, y);
                default: return new Spot(x, y - 1);
            }
        }

        boolean isSquare() {
            return 0 <= x && x <= 15 && 0 <= y && y <= 15;
        }

        boolean isNear(Spot other) {
            return Math.abs(x / 4 - other.x / 4) < 2 && Math.abs(y / 4 - other.y / 4) < 2;
        }
    }

    static class Packet {
        int client;
    }

    static final class Snapshot extends Packet {
        int tick;
        int done;
        int base;
        int size;
        /** Of the entities that are told alone. */
        final TreeMap<Integer, Spot> told = new TreeMap<>();
    }

    static final class Report extends Packet {
        int newest;
        int seen;
        final TreeMap<Integer, Integer> commands = new TreeMap<>();
    }

    static final class Person {
        final List<Integer> made = new ArrayList<>();
        final TreeMap<Integer, Integer> held = new TreeMap<>();
        final TreeMap<Integer, Snapshot> sent = new TreeMap<>();
        final List<Snapshot> taken = new ArrayList<>();
        int done = 0;
        int acknowledged = 0;

        int newest() {
            return taken.isEmpty() ? 0 : taken.get(taken.size() - 1).tick;
        }

        int seen() {
            return taken.isEmpty() ? 0 : taken.get(taken.size() - 1).done;
        }
    }

    private final Set<Integer> walls = new HashSet<>();
    private final Spot[] spots = new Spot[8];
    private final int[] directions = new int[8];
    private final Person[] people = {new Person(), new Person(), new Person()};
    private final List<Packet> air = new ArrayList<>();
    private Spot[] before;
    private int now = 0;

    Model() {
        for (int e = 0; e < 8; e++) {
            spots[e] = new Spot(2 * e, 0);
        }
    }

    private boolean blocked(Spot spot) {
        return !spot.isSquare() || walls.contains(spot.place());
    }

    private Spot moved(Spot spot, int command) {
        return command == 4 || blocked(spot.next(command)) ? spot : spot.next(command);
    }

    private static boolean in(int value, int from, int to) {
        return value >= from && value <= to;
    }

    private void send(Packet packet) {
        if (air.size() < 24) {
            air.add(packet);
        }
    }

    int wall(int x, int y) {
        Spot spot = new Spot(x, y);
        if (!spot.isSquare() || now != 0) {
            return 0;
        }
        for (Spot taken : spots) {
            if (taken.place() == spot.place()) {
                return 0;
            }
        }
        walls.add(spot.place());
        return 1;
    }

    int place(int entity, int x, int y, int direction) {
        Spot spot = new Spot(x, y);
        if (!in(entity, 0, 7) || blocked(spot) || now != 0 || entity >= 3 && !in(direction, 0, 3)) {
            return 0;
        }
        spots[entity] = spot;
        directions[entity] = direction;
        return 1;
    }

    int input(int client, int command) {
        if (!in(client, 0, 2) || !in(command, 0, 4)) {
            return -1;
        }
        Person person = people[client];
        if (person.made.size() - person.seen() == 12) {
            return -1;
        }
        person.made.add(command);
        return person.made.size();
    }

    int report(int client) {
        if (!in(client, 0, 2)) {
            return 0;
        }
        Person person = people[client];
        Report report = new Report();
        report.client = client;
        report.newest = person.newest();
        report.seen = person.seen();
        for (int n = person.seen() + 1; n <= person.made.size() && n <= person.seen() + 4; n++) {
            report.commands.put(n, person.made.get(n - 1));
        }
        send(report);
        return 1;
    }

    int tick() {
        if (now == 0) {
            before = Arrays.copyOf(spots, 3);
        }
        now++;
        for (int c = 0; c < 3; c++) {
            Integer command = people[c].held.remove(people[c].done + 1);
            if (command != null) {
                spots[c] = moved(spots[c], command);
                people[c].done++;
            }
        }
        for (int e = 3; e < 8; e++) {
            if (blocked(spots[e].next(directions[e]))) {
                directions[e] = directions[e] ^ 2;
            } else {
                spots[e] = spots[e].next(directions[e]);
            }
        }
        for (int c = 0; c < 3; c++) {
            send(snapshot(c));
        }
        return now;
    }

    private Snapshot snapshot(int c) {
        Person person = people[c];
        Snapshot snapshot = new Snapshot();
        snapshot.client = c;
        snapshot.tick = now;
        snapshot.done = person.done;
        for (int e = 0; e < 8; e++) {
            if (spots[e].isNear(spots[c])) {
                snapshot.told.put(e, spots[e]);
            }
        }
        if (person.acknowledged > 0 && now - person.acknowledged <= 6) {
            snapshot.base = person.acknowledged;
        }
        snapshot.size = size(snapshot, person.sent.get(snapshot.base));
        person.sent.put(now, snapshot);
        return snapshot;
    }

    private static int size(Snapshot snapshot, Snapshot base) {
        int bits = 20 + (base == null ? 1 : 4);
        for (int e = 0; e < 8; e++) {
            Spot is = snapshot.told.get(e);
            Spot was = base == null ? null : base.told.get(e);
            if (was == null) {
                bits += is == null ? 1 : 9;
            } else if (is == null) {
                bits += 3;
            } else {
                bits += is.place() == was.place() ? 1 : isStep(was, is) ? 4 : 11;
            }
        }
        return bits;
    }

    private static boolean isStep(Spot from, Spot to) {
        for (int d = 0; d < 4; d++) {
            Spot next = from.next(d);
            if (next.x == to.x && next.y == to.y) {
                return true;
            }
        }
        return false;
    }

    int deliver(int k) {
        if (!in(k, 0, air.size() - 1)) {
            return -1;
        }
        Packet packet = air.remove(k);
        Person person = people[packet.client];
        if (packet instanceof Snapshot) {
            Snapshot snapshot = (Snapshot) packet;
            for (Snapshot old : person.taken) {
                if (old.tick >= snapshot.tick) {
                    return 0;
                }
            }
            person.taken.add(snapshot);
            return 1;
        }
        Report report = (Report) packet;
        if (report.newest > person.acknowledged) {
            person.acknowledged = report.newest;
        }
        for (int n : report.commands.keySet()) {
            if (n > person.done) {
                person.held.put(n, report.commands.get(n));
            }
        }
        return 1;
    }

    int lose(int k) {
        if (!in(k, 0, air.size() - 1)) {
            return 0;
        }
        air.remove(k);
        return 1;
    }

    int copy(int k) {
        if (!in(k, 0, air.size() - 1) || air.size() == 24) {
            return 0;
        }
        air.add(air.get(k));
        return 1;
    }

    int flight() {
        return air.size();
    }

    int packet(int k, int which) {
        if (!in(k, 0, air.size() - 1) || !in(which, 0, 5)) {
            return -1;
        }
        Packet packet = air.get(k);
        if (packet instanceof Snapshot) {
            Snapshot s = (Snapshot) packet;
            return new int[] {s.client, 1, s.size, s.tick, s.base, s.done}[which];
        }
        Report r = (Report) packet;
        int told = r.commands.size();
        return new int[] {r.client, 0, 23 + 3 * told, r.newest, told, r.seen}[which];
    }

    int position(int entity) {
        return in(entity, 0, 7) ? spots[entity].place() : -1;
    }

    int view(int client, int entity) {
        if (!in(client, 0, 2) || !in(entity, 0, 7) || people[client].taken.isEmpty()) {
            return -1;
        }
        List<Snapshot> taken = people[client].taken;
        Spot spot = taken.get(taken.size() - 1).told.get(entity);
        return spot == null ? -1 : spot.place();
    }

    int predicted(int client) {
        if (!in(client, 0, 2)) {
            return -1;
        }
        Person person = people[client];
        Spot spot = now == 0 ? spots[client] : before[client];
        if (!person.taken.isEmpty()) {
            spot = person.taken.get(person.taken.size() - 1).told.get(client);
        }
        for (int n = person.seen() + 1; n <= person.made.size(); n++) {
            spot = moved(spot, person.made.get(n - 1));
        }
        return spot.place();
    }

    int count(int client, int which) {
        if (!in(client, 0, 2) || !in(which, 0, 5)) {
            return -1;
        }
        Person p = people[client];
        return new int[] {p.made.size(), p.seen(), p.done, p.held.size(), p.newest(), p.acknowledged}[which];
    }
}
