public final class DeltaPlayfield {
    public static final int NONE = -1;

    private static final int SIDE = 16;
    private static final int BLOCK_SIDE = 4;
    private static final int ENTITIES = 8;
    /** Entity c is the player of client c; the entities from here on are drifters. */
    private static final int CLIENTS = 3;
    private static final int DIRECTIONS = 4;
    private static final int STAY = 4;
    private static final int MOST_UNSEEN_COMMANDS = 12;
    private static final int MOST_COMMANDS_TOLD = 4;
    private static final int MOST_IN_FLIGHT = 24;
    private static final int OLDEST_BASE = 6;

    /** Commands that matter lie within 12 numbers of one another, so a ring of 16 keeps them apart. */
    private static final int COMMAND_RING = 16;
    /** A base is at most 6 ticks old, so a ring of 8 still has it when it is needed. */
    private static final int TICK_RING = 8;

    /** Steps by command number; staying is a step to where one stands. */
    private static final int[] STEP_X = {1, 0, -1, 0, 0};
    private static final int[] STEP_Y = {0, 1, 0, -1, 0};

    private final Field field = new Field();
    private final Network network = new Network();
    private final Client[] clients = new Client[CLIENTS];
    private final Account[] accounts = new Account[CLIENTS];
    private int now;

    public DeltaPlayfield() {
        for (int c = 0; c < CLIENTS; c++) {
            clients[c] = new Client(field.places[c]);
            accounts[c] = new Account();
        }
    }

    public boolean wall(int x, int y) {
        if (now != 0 || !isSquare(x, y) || field.isOccupied(placeOf(x, y))) {
            return false;
        }
        field.walls[placeOf(x, y)] = true;
        return true;
    }

    public boolean place(int entity, int x, int y, int direction) {
        if (now != 0 || !isEntity(entity) || !field.isFree(x, y)) {
            return false;
        }
        if (isClient(entity)) {
            clients[entity].start = placeOf(x, y);
        } else if (isDirection(direction)) {
            field.directions[entity] = direction;
        } else {
            return false;
        }
        field.places[entity] = placeOf(x, y);
        return true;
    }

    public int input(int client, int command) {
        if (!isClient(client) || !isCommand(command)) {
            return NONE;
        }
        Client maker = clients[client];
        if (maker.unseenCommands() >= MOST_UNSEEN_COMMANDS) {
            return NONE;
        }
        maker.addCommand(command);
        return maker.issued;
    }

    public boolean report(int client) {
        if (!isClient(client)) {
            return false;
        }
        Packet sent = network.addLast();
        if (sent != null) {
            sent.client = client;
            clients[client].writeReport(sent);
        }
        return true;
    }

    public int tick() {
        now++;
        for (int c = 0; c < CLIENTS; c++) {
            doNextCommand(c);
        }
        field.moveDrifters();
        for (int c = 0; c < CLIENTS; c++) {
            sendSnapshot(c);
        }
        return now;
    }

    public int deliver(int k) {
        if (!network.has(k)) {
            return NONE;
        }
        Packet taken = network.takeOut(k);
        if (taken.isSnapshot) {
            return clients[taken.client].takeSnapshot(taken) ? 1 : 0;
        }
        accounts[taken.client].readReport(taken);
        return 1;
    }

    public boolean lose(int k) {
        if (!network.has(k)) {
            return false;
        }
        network.takeOut(k);
        return true;
    }

    public boolean copy(int k) {
        if (!network.has(k)) {
            return false;
        }
        Packet twin = network.addLast();
        if (twin == null) {
            return false;
        }
        twin.becomeLike(network.packets[k]);
        return true;
    }

    public int flight() {
        return network.size;
    }

    public int packet(int k, int which) {
        if (!network.has(k)) {
            return NONE;
        }
        Packet asked = network.packets[k];
        switch (which) {
            case 0:
                return asked.client;
            case 1:
                return asked.isSnapshot ? 1 : 0;
            case 2:
                return asked.size;
            case 3:
                return asked.tick;
            case 4:
                return asked.isSnapshot ? asked.base : asked.commandCount;
            case 5:
                return asked.done;
            default:
                return NONE;
        }
    }

    public int position(int entity) {
        return isEntity(entity) ? field.places[entity] : NONE;
    }

    public int view(int client, int entity) {
        return isClient(client) && isEntity(entity) ? clients[client].shown[entity] : NONE;
    }

    public int predicted(int client) {
        if (!isClient(client)) {
            return NONE;
        }
        Client asked = clients[client];
        int reached = asked.newest == 0 ? asked.start : asked.shown[client];
        int unseen = asked.unseenCommands();
        for (int i = 0; i < unseen; i++) {
            reached = field.after(reached, asked.commandAt(asked.seen + 1 + i));
        }
        return reached;
    }

    public int count(int client, int which) {
        if (!isClient(client)) {
            return NONE;
        }
        switch (which) {
            case 0:
                return clients[client].issued;
            case 1:
                return clients[client].seen;
            case 2:
                return accounts[client].done;
            case 3:
                return accounts[client].heldCommands();
            case 4:
                return clients[client].newest;
            case 5:
                return accounts[client].acknowledged;
            default:
                return NONE;
        }
    }

    private void doNextCommand(int client) {
        int command = accounts[client].takeNextCommand();
        if (command != NONE) {
            field.places[client] = field.after(field.places[client], command);
        }
    }

    private void sendSnapshot(int client) {
        Account account = accounts[client];
        account.remember(now, field, client);
        Packet sent = network.addLast();
        if (sent != null) {
            sent.client = client;
            account.writeSnapshot(sent, now);
        }
    }

    private static boolean isSquare(int x, int y) {
        return x >= 0 && x < SIDE && y >= 0 && y < SIDE;
    }

    private static int placeOf(int x, int y) {
        return x + SIDE * y;
    }

    private static boolean isEntity(int entity) {
        return entity >= 0 && entity < ENTITIES;
    }

    private static boolean isClient(int client) {
        return client >= 0 && client < CLIENTS;
    }

    private static boolean isDirection(int direction) {
        return direction >= 0 && direction < DIRECTIONS;
    }

    private static boolean isCommand(int command) {
        return isDirection(command) || command == STAY;
    }

    private static int distance(int a, int b) {
        return Math.abs(a % SIDE - b % SIDE) + Math.abs(a / SIDE - b / SIDE);
    }

    /** The squares, their walls, and where the entities stand at the server. */
    private static final class Field {
        final boolean[] walls = new boolean[SIDE * SIDE];
        final int[] places = new int[ENTITIES];
        final int[] directions = new int[ENTITIES];

        Field() {
            for (int e = 0; e < ENTITIES; e++) {
                places[e] = placeOf(2 * e, 0);
            }
        }

        boolean isFree(int x, int y) {
            return isSquare(x, y) && !walls[placeOf(x, y)];
        }

        boolean isOccupied(int square) {
            for (int e = 0; e < ENTITIES; e++) {
                if (places[e] == square) {
                    return true;
                }
            }
            return false;
        }

        /** Where a command brings one who stands at this place: the same place if it is blocked. */
        int after(int from, int command) {
            int x = from % SIDE + STEP_X[command];
            int y = from / SIDE + STEP_Y[command];
            return isFree(x, y) ? placeOf(x, y) : from;
        }

        void moveDrifters() {
            for (int e = CLIENTS; e < ENTITIES; e++) {
                int reached = after(places[e], directions[e]);
                if (reached == places[e]) {
                    directions[e] = (directions[e] + 2) % DIRECTIONS;
                }
                places[e] = reached;
            }
        }

        boolean sees(int client, int entity) {
            int a = places[client];
            int b = places[entity];
            int across = a % SIDE / BLOCK_SIDE - b % SIDE / BLOCK_SIDE;
            int down = a / SIDE / BLOCK_SIDE - b / SIDE / BLOCK_SIDE;
            return Math.abs(across) <= 1 && Math.abs(down) <= 1;
        }
    }

    /** A snapshot or a report; one class for both, so that the network can use its packets again. */
    private static final class Packet {
        int client;
        boolean isSnapshot;
        int size;
        /** The tick of a snapshot, or the NEWEST that a report tells. */
        int tick;
        /** The DONE that a snapshot tells, or the SEEN of a report's client when it was sent. */
        int done;
        /** Of a snapshot alone: 0 when it has none. */
        int base;
        /** Of a snapshot alone: NONE for an entity that it does not tell. */
        final int[] places = new int[ENTITIES];
        /** Of a report alone: how many commands it tells, and these from number done + 1 on. */
        int commandCount;
        final int[] commands = new int[MOST_COMMANDS_TOLD];

        void becomeLike(Packet other) {
            client = other.client;
            isSnapshot = other.isSnapshot;
            size = other.size;
            tick = other.tick;
            done = other.done;
            base = other.base;
            System.arraycopy(other.places, 0, places, 0, ENTITIES);
            commandCount = other.commandCount;
            System.arraycopy(other.commands, 0, commands, 0, MOST_COMMANDS_TOLD);
        }
    }

    /** The flight: the first size packets are in it, oldest first; the others wait to be used again. */
    private static final class Network {
        final Packet[] packets = new Packet[MOST_IN_FLIGHT];
        int size;

        Network() {
            for (int i = 0; i < MOST_IN_FLIGHT; i++) {
                packets[i] = new Packet();
            }
        }

        boolean has(int k) {
            return k >= 0 && k < size;
        }

        /** The packet that is now the last in flight, for the sender to fill; null when all are in use. */
        Packet addLast() {
            if (size >= MOST_IN_FLIGHT) {
                return null;
            }
            Packet last = packets[size];
            size++;
            return last;
        }

        /** What is taken out keeps its content until the next addLast. */
        Packet takeOut(int k) {
            Packet taken = packets[k];
            size--;
            for (int i = k; i < size; i++) {
                packets[i] = packets[i + 1];
            }
            packets[size] = taken;
            return taken;
        }
    }

    /** What a client itself knows. */
    private static final class Client {
        final int[] commands = new int[COMMAND_RING];
        /** The places in the snapshot that it took latest; NONE for what is not told there. */
        final int[] shown = new int[ENTITIES];
        /** Where its player stood before tick 1. */
        int start;
        int issued;
        int seen;
        int newest;

        Client(int start) {
            this.start = start;
            for (int e = 0; e < ENTITIES; e++) {
                shown[e] = NONE;
            }
        }

        int unseenCommands() {
            return issued - seen;
        }

        int commandAt(int number) {
            return commands[number & (COMMAND_RING - 1)];
        }

        void addCommand(int command) {
            issued++;
            commands[issued & (COMMAND_RING - 1)] = command;
        }

        void writeReport(Packet sent) {
            sent.isSnapshot = false;
            sent.tick = newest;
            sent.done = seen;
            sent.commandCount = Math.min(unseenCommands(), MOST_COMMANDS_TOLD);
            for (int i = 0; i < sent.commandCount; i++) {
                sent.commands[i] = commandAt(seen + 1 + i);
            }
            sent.size = 23 + 3 * sent.commandCount;
        }

        boolean takeSnapshot(Packet got) {
            if (got.tick <= newest) {
                return false;
            }
            newest = got.tick;
            seen = got.done;
            System.arraycopy(got.places, 0, shown, 0, ENTITIES);
            return true;
        }
    }

    /** What the server knows of one client. */
    private static final class Account {
        /** The held commands in a ring by number; NONE where none is held. */
        final int[] held = new int[COMMAND_RING];
        /** The places told in the latest snapshots, in a ring of rows by tick. */
        final int[] told = new int[TICK_RING * ENTITIES];
        int done;
        int acknowledged;

        Account() {
            for (int i = 0; i < COMMAND_RING; i++) {
                held[i] = NONE;
            }
        }

        int heldCommands() {
            int sum = 0;
            for (int i = 0; i < COMMAND_RING; i++) {
                if (held[i] != NONE) {
                    sum++;
                }
            }
            return sum;
        }

        /** The command after the done ones, now done and held no more; NONE when it is not held. */
        int takeNextCommand() {
            int at = (done + 1) & (COMMAND_RING - 1);
            int command = held[at];
            if (command != NONE) {
                held[at] = NONE;
                done++;
            }
            return command;
        }

        void readReport(Packet got) {
            acknowledged = Math.max(acknowledged, got.tick);
            for (int i = 0; i < MOST_COMMANDS_TOLD; i++) {
                int number = got.done + 1 + i;
                if (i < got.commandCount && number > done) {
                    held[number & (COMMAND_RING - 1)] = got.commands[i];
                }
            }
        }

        /** Also for a snapshot that is lost at once: whether it is, is not the server's to know. */
        void remember(int tick, Field field, int client) {
            int row = rowOf(tick);
            for (int e = 0; e < ENTITIES; e++) {
                told[row + e] = field.sees(client, e) ? field.places[e] : NONE;
            }
        }

        void writeSnapshot(Packet sent, int tick) {
            sent.isSnapshot = true;
            sent.tick = tick;
            sent.done = done;
            sent.base = baseAt(tick);
            System.arraycopy(told, rowOf(tick), sent.places, 0, ENTITIES);
            sent.size = snapshotSize(tick, sent.base);
        }

        private int baseAt(int tick) {
            return acknowledged != 0 && tick - acknowledged <= OLDEST_BASE ? acknowledged : 0;
        }

        private int snapshotSize(int tick, int base) {
            int size = base == 0 ? 21 : 24;
            for (int e = 0; e < ENTITIES; e++) {
                int was = base == 0 ? NONE : told[rowOf(base) + e];
                size += entitySize(was, told[rowOf(tick) + e]);
            }
            return size;
        }

        private static int entitySize(int was, int is) {
            if (was == NONE) {
                return is == NONE ? 1 : 9;
            }
            if (is == NONE) {
                return 3;
            }
            if (is == was) {
                return 1;
            }
            return distance(was, is) == 1 ? 4 : 11;
        }

        private static int rowOf(int tick) {
            return (tick & (TICK_RING - 1)) * ENTITIES;
        }
    }
}
