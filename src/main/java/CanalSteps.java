/** A canal of six pounds and five locks with its boats and its water; the answers are those that DOC.md promises. */
public final class CanalSteps {
    public static final int UNKNOWN = -1;
    public static final int BAD_VALUE = -2;
    public static final int FULL = -3;
    public static final int NOT_POSSIBLE = -4;
    public static final int NONE = -5;

    private static final int POUNDS = 6;
    private static final int LOCKS = 5;
    private static final int FIRST_DEPTH = 40;
    private static final int MOST_DEPTH = 90;
    private static final int MOST_BOATS = 16;
    private static final int MOST_PIECES = 6;
    private static final int MOST_DRAUGHT = 60;
    private static final int MOST_TICKS = 99;
    private static final int LAST_TICK = 99999;
    private static final int MOST_FORESEEN = 500;
    private static final int TICKS_OF_BEST_TURN = 40;
    private static final int MOST_STATES = 4;
    private static final int MOST_SIGNS = 60;
    // The shortest thing has two signs and each but the last a semicolon.
    private static final int MOST_THINGS = (MOST_SIGNS + 1) / 3;
    private static final int FAULT_BASE = -100;

    private static final int SET_FILLING = 0;
    private static final int SET_PIECES = 1;
    private static final int SET_SPRING = 2;
    private static final int[] SETTING_LEAST = {1, 1, 0};
    private static final int[] SETTING_MOST = {20, 6, 20};
    private static final int[] SETTING_FIRST = {6, 2, 4};

    private static final int GOES = 0;
    private static final int HAS_ARRIVED = 1;
    private static final int IS_AGROUND = 2;
    private static final int IS_BEHIND = 3;
    private static final int IS_SHUT_OUT = 4;
    private static final int LACKS_WATER = 5;

    private static final int THING_BOAT = 0;
    private static final int THING_TURN = 1;
    private static final int THING_TICKS = 2;

    private final Canal canal = new Canal();
    private final Canal before = new Canal();
    private final Canal trial = new Canal();
    private final Canal snapshot = new Canal();
    private final History history = new History();
    private final Traffic traffic = new Traffic();
    private boolean hasSnapshot;
    private int stopNumber = NONE;
    private int stopError = NONE;

    public CanalSteps() {
    }

    // ---- boats, locks, water

    public int boat(int pieces, int from, int to, int draught) {
        before.copyFrom(canal);
        return recorded(canal.comeBoat(pieces, from, to, draught));
    }

    public int load(int boat, int draught) {
        before.copyFrom(canal);
        return recorded(canal.loadBoat(boat, draught));
    }

    public int turnLock(int lock) {
        before.copyFrom(canal);
        return recorded(canal.turnByHand(lock));
    }

    public int setDepth(int pound, int depth) {
        before.copyFrom(canal);
        return recorded(canal.changeDepth(pound, depth));
    }

    public int set(int which, int value) {
        before.copyFrom(canal);
        return recorded(canal.changeSetting(which, value));
    }

    public int pass(int ticks) {
        before.copyFrom(canal);
        return recorded(canal.letPass(ticks));
    }

    // ---- texts

    public int type(char character) {
        return traffic.addSign(character);
    }

    public int clearText() {
        int length = traffic.length;
        traffic.length = 0;
        return length;
    }

    public int perform() {
        if (!traffic.readAll()) {
            return FAULT_BASE - traffic.place;
        }
        before.copyFrom(canal);
        for (int i = 0; i < traffic.size; i++) {
            int answer = doThing(traffic.things[i]);
            if (answer < 0) {
                canal.copyFrom(before);
                stopNumber = i;
                stopError = answer;
                return NOT_POSSIBLE;
            }
        }
        return recorded(traffic.size);
    }

    public int stopped(int what) {
        switch (what) {
            case 0: return stopNumber;
            case 1: return stopError;
            default: return BAD_VALUE;
        }
    }

    // ---- history

    public int undo() {
        Canal latest = history.takeLatest();
        if (latest == null) {
            return NONE;
        }
        canal.copyFrom(latest);
        return history.size;
    }

    public int keep() {
        snapshot.copyFrom(canal);
        hasSnapshot = true;
        return canal.tick;
    }

    public int restore() {
        if (!hasSnapshot) {
            return NONE;
        }
        before.copyFrom(canal);
        canal.copyFrom(snapshot);
        return recorded(canal.tick);
    }

    // ---- what is told

    public int boatOf(int boat, int what) {
        return canal.knowsBoat(boat) ? canal.tellBoat(boat, what) : UNKNOWN;
    }

    public int lock(int lock, int what) {
        return isWithin(lock, 0, LOCKS - 1) ? canal.locks[lock].tellLock(what) : UNKNOWN;
    }

    public int pound(int pound, int what) {
        return isWithin(pound, 0, POUNDS - 1) ? canal.tellPound(pound, what) : UNKNOWN;
    }

    public int reason(int boat) {
        if (!canal.knowsBoat(boat)) {
            return UNKNOWN;
        }
        trial.copyFrom(canal);
        // Below 0 for a boat that has arrived: no lock works then.
        int turn = trial.boats[boat].lockNumber();
        for (int k = 0; k < turn; k++) {
            trial.workLock(k);
        }
        return trial.reasonNow(boat);
    }

    public int arrivesIn(int boat) {
        if (!canal.knowsBoat(boat)) {
            return UNKNOWN;
        }
        trial.copyFrom(canal);
        for (int ticks = 0; ticks <= MOST_FORESEEN; ticks++) {
            if (trial.boats[boat].hasArrived()) {
                return ticks;
            }
            trial.stepTick();
        }
        return NONE;
    }

    public int water(int way) {
        switch (way) {
            case 0: return canal.waterThere();
            case 1: return canal.waterByAccount();
            default: return BAD_VALUE;
        }
    }

    public int bestTurn(int what) {
        if (!isWithin(what, 0, 1)) {
            return BAD_VALUE;
        }
        int best = NONE;
        int most = arrivalsAfterTurn(NONE);
        for (int k = 0; k < LOCKS; k++) {
            int arrivals = canal.canTurn(k) ? arrivalsAfterTurn(k) : 0;
            if (arrivals > most) {
                best = k;
                most = arrivals;
            }
        }
        return best == NONE || what == 0 ? best : most;
    }

    public int ifTicks(int ticks, int what) {
        if (!isWithin(ticks, 1, MOST_FORESEEN) || !isWithin(what, 0, 3)) {
            return BAD_VALUE;
        }
        trial.copyFrom(canal);
        for (int i = 0; i < ticks; i++) {
            trial.stepTick();
        }
        switch (what) {
            case 0: return trial.arrived - canal.arrived;
            case 1: return trial.passagesOfAll() - canal.passagesOfAll();
            case 2: return trial.lost - canal.lost;
            default: return trial.countAground();
        }
    }

    public int count(int what) {
        switch (what) {
            case 12: return history.size;
            case 13: return traffic.length;
            default: return canal.tellCount(what);
        }
    }

    // ---- helpers

    private static boolean isWithin(int value, int least, int most) {
        return value >= least && value <= most;
    }

    // Every act answers a number from 0 when it was done, and errors and NONE lie below 0.
    private int recorded(int answer) {
        if (answer >= 0) {
            history.push(before);
        }
        return answer;
    }

    private int doThing(Thing thing) {
        switch (thing.kind) {
            case THING_BOAT: return canal.comeBoat(thing.pieces, thing.from, thing.to, thing.draught);
            case THING_TURN: return canal.turnByHand(thing.lock);
            default: return canal.letPass(thing.ticks);
        }
    }

    private int arrivalsAfterTurn(int lock) {
        trial.copyFrom(canal);
        if (lock != NONE) {
            trial.turnChamber(lock);
        }
        for (int i = 0; i < TICKS_OF_BEST_TURN; i++) {
            trial.stepTick();
        }
        return trial.arrived - canal.arrived;
    }

    /** The boats that wait at one side of a lock, the first one ahead. */
    private static final class Queue {
        final int[] boats = new int[MOST_BOATS];
        int size;

        void copyFrom(Queue other) {
            size = other.size;
            System.arraycopy(other.boats, 0, boats, 0, MOST_BOATS);
        }

        int first() {
            return size > 0 ? boats[0] : NONE;
        }

        int placeOf(int boat) {
            for (int i = 0; i < size; i++) {
                if (boats[i] == boat) {
                    return i;
                }
            }
            return NONE;
        }

        void join(int boat) {
            if (size < MOST_BOATS) {
                boats[size] = boat;
                size++;
            }
        }

        void dropFirst() {
            for (int i = 1; i < size; i++) {
                boats[i - 1] = boats[i];
            }
            if (size > 0) {
                size--;
            }
        }
    }

    /** A lock with its chamber and the queues on either side. */
    private static final class Lock {
        final Queue below = new Queue();
        final Queue above = new Queue();
        // A filling takes at least 1, so that the water alone tells whether the chamber is high.
        int chamber;
        int passages;
        int fillings;

        void copyFrom(Lock other) {
            below.copyFrom(other.below);
            above.copyFrom(other.above);
            chamber = other.chamber;
            passages = other.passages;
            fillings = other.fillings;
        }

        boolean isHigh() {
            return chamber > 0;
        }

        int tellLock(int what) {
            switch (what) {
                case 0: return isHigh() ? 1 : 0;
                case 1: return below.size;
                case 2: return above.size;
                case 3: return below.first();
                case 4: return above.first();
                case 5: return passages;
                case 6: return fillings;
                case 7: return chamber;
                default: return BAD_VALUE;
            }
        }
    }

    /** A barge or a raft, with its pieces in one pound or in two that are beside one another. */
    private static final class Boat {
        int pieces;
        int draught;
        int pound;
        int goal;
        int through;
        int passages;
        int arrivedAt = NONE;

        void copyFrom(Boat other) {
            pieces = other.pieces;
            draught = other.draught;
            pound = other.pound;
            goal = other.goal;
            through = other.through;
            passages = other.passages;
            arrivedAt = other.arrivedAt;
        }

        void comeTo(int from) {
            pound = from;
            through = 0;
            passages = 0;
            arrivedAt = NONE;
        }

        // No boat starts in its goal, and the pound changes only with the last piece.
        boolean hasArrived() {
            return pound == goal;
        }

        int nextPound() {
            if (goal > pound) {
                return pound + 1;
            }
            return goal < pound ? pound - 1 : pound;
        }

        int lockNumber() {
            if (goal > pound) {
                return pound;
            }
            return goal < pound ? pound - 1 : NONE;
        }

        boolean isUnderWayIn(int where) {
            if (hasArrived()) {
                return false;
            }
            return pound == where || through > 0 && nextPound() == where;
        }
    }

    /** A state: all that undo() and restore() bring back. */
    private static final class Canal {
        final int[] depths = new int[POUNDS];
        final int[] settings = new int[SETTING_FIRST.length];
        final Lock[] locks = new Lock[LOCKS];
        final Boat[] boats = new Boat[MOST_BOATS];
        int boatCount;
        int arrived;
        int tick;
        int lost;
        int fromSpring;
        int letIn;
        int letOut;

        Canal() {
            for (int i = 0; i < POUNDS; i++) {
                depths[i] = FIRST_DEPTH;
            }
            for (int i = 0; i < settings.length; i++) {
                settings[i] = SETTING_FIRST[i];
            }
            for (int i = 0; i < LOCKS; i++) {
                locks[i] = new Lock();
            }
            for (int i = 0; i < MOST_BOATS; i++) {
                boats[i] = new Boat();
            }
        }

        void copyFrom(Canal other) {
            System.arraycopy(other.depths, 0, depths, 0, POUNDS);
            System.arraycopy(other.settings, 0, settings, 0, settings.length);
            for (int i = 0; i < LOCKS; i++) {
                locks[i].copyFrom(other.locks[i]);
            }
            for (int i = 0; i < other.boatCount; i++) {
                boats[i].copyFrom(other.boats[i]);
            }
            boatCount = other.boatCount;
            arrived = other.arrived;
            tick = other.tick;
            lost = other.lost;
            fromSpring = other.fromSpring;
            letIn = other.letIn;
            letOut = other.letOut;
        }

        // ---- what is done by hand

        int comeBoat(int pieces, int from, int to, int draught) {
            if (!isWithin(from, 0, POUNDS - 1) || !isWithin(to, 0, POUNDS - 1)) {
                return UNKNOWN;
            }
            if (!isWithin(pieces, 1, MOST_PIECES) || !isWithin(draught, 1, MOST_DRAUGHT) || from == to) {
                return BAD_VALUE;
            }
            if (boatCount >= MOST_BOATS) {
                return FULL;
            }
            int number = boatCount;
            Boat boat = boats[number];
            boat.pieces = pieces;
            boat.draught = draught;
            boat.goal = to;
            boat.comeTo(from);
            boatCount++;
            Queue queue = queueOf(boat);
            if (queue != null) {
                queue.join(number);
            }
            return number;
        }

        int loadBoat(int number, int draught) {
            if (!knowsBoat(number)) {
                return UNKNOWN;
            }
            if (!isWithin(draught, 1, MOST_DRAUGHT)) {
                return BAD_VALUE;
            }
            Boat boat = boats[number];
            if (boat.hasArrived()) {
                return NOT_POSSIBLE;
            }
            int previous = boat.draught;
            boat.draught = draught;
            return previous == draught ? NONE : previous;
        }

        int turnByHand(int lock) {
            if (!isWithin(lock, 0, LOCKS - 1)) {
                return UNKNOWN;
            }
            if (!canTurn(lock)) {
                return NOT_POSSIBLE;
            }
            turnChamber(lock);
            return locks[lock].isHigh() ? 1 : 0;
        }

        int changeDepth(int pound, int depth) {
            if (!isWithin(pound, 0, POUNDS - 1)) {
                return UNKNOWN;
            }
            if (!isWithin(depth, 0, MOST_DEPTH)) {
                return BAD_VALUE;
            }
            int previous = depths[pound];
            depths[pound] = depth;
            letIn += Math.max(0, depth - previous);
            letOut += Math.max(0, previous - depth);
            return previous == depth ? NONE : previous;
        }

        int changeSetting(int which, int value) {
            if (!isWithin(which, 0, settings.length - 1)) {
                return UNKNOWN;
            }
            if (!isWithin(value, SETTING_LEAST[which], SETTING_MOST[which])) {
                return BAD_VALUE;
            }
            int previous = settings[which];
            settings[which] = value;
            return previous == value ? NONE : previous;
        }

        int letPass(int ticks) {
            if (!isWithin(ticks, 1, MOST_TICKS)) {
                return BAD_VALUE;
            }
            if (tick + ticks > LAST_TICK) {
                return FULL;
            }
            int arrivedBefore = arrived;
            for (int i = 0; i < ticks; i++) {
                stepTick();
            }
            return arrived - arrivedBefore;
        }

        // ---- a tick

        void stepTick() {
            for (int k = 0; k < LOCKS; k++) {
                workLock(k);
            }
            flowFromSpring();
            tick++;
        }

        void workLock(int k) {
            Lock lock = locks[k];
            if (lock.below.size == 0 && lock.above.size == 0 || !canTurn(k)) {
                return;
            }
            Queue queue = lock.isHigh() ? lock.above : lock.below;
            // An empty queue answers NONE, and that is no boat.
            int number = queue.first();
            if (!knowsBoat(number)) {
                turnChamber(k);
            } else if (!isAground(boats[number])) {
                turnChamber(k);
                goThrough(lock, queue, number);
            }
        }

        void goThrough(Lock lock, Queue queue, int number) {
            Boat boat = boats[number];
            lock.passages++;
            boat.passages++;
            boat.through = Math.min(boat.pieces, boat.through + settings[SET_PIECES]);
            if (boat.through < boat.pieces) {
                return;
            }
            queue.dropFirst();
            boat.pound = boat.nextPound();
            boat.through = 0;
            Queue next = queueOf(boat);
            if (next == null) {
                boat.arrivedAt = tick;
                arrived++;
            } else {
                next.join(number);
            }
        }

        boolean canTurn(int k) {
            return locks[k].isHigh() || depths[k + 1] >= settings[SET_FILLING];
        }

        void turnChamber(int k) {
            Lock lock = locks[k];
            if (lock.isHigh()) {
                lost += pourInto(k, lock.chamber);
                lock.chamber = 0;
            } else {
                lock.chamber = settings[SET_FILLING];
                depths[k + 1] -= lock.chamber;
                lock.fillings++;
            }
        }

        void flowFromSpring() {
            int flow = settings[SET_SPRING];
            fromSpring += flow;
            for (int i = POUNDS - 1; i >= 0; i--) {
                flow = pourInto(i, flow);
            }
            lost += flow;
        }

        /** Gives water to a pound and answers how much of it goes over the weir. */
        int pourInto(int pound, int amount) {
            int over = Math.max(0, depths[pound] + amount - MOST_DEPTH);
            depths[pound] += amount - over;
            return over;
        }

        // ---- what is told

        boolean knowsBoat(int number) {
            return isWithin(number, 0, boatCount - 1);
        }

        /** The queue in which a boat is due, null if it has arrived. */
        Queue queueOf(Boat boat) {
            if (boat.goal > boat.pound) {
                return locks[boat.pound].below;
            }
            return boat.goal < boat.pound ? locks[boat.pound - 1].above : null;
        }

        int placeInQueue(int number) {
            Queue queue = queueOf(boats[number]);
            return queue == null ? NONE : queue.placeOf(number);
        }

        boolean isAground(Boat boat) {
            return Math.min(depths[boat.pound], depths[boat.nextPound()]) < boat.draught;
        }

        /** Why a boat stays, when it is the turn of its lock. */
        int reasonNow(int number) {
            Boat boat = boats[number];
            int k = boat.lockNumber();
            if (k == NONE) {
                return HAS_ARRIVED;
            }
            if (isAground(boat)) {
                return IS_AGROUND;
            }
            if (placeInQueue(number) > 0) {
                return IS_BEHIND;
            }
            boolean goesUp = boat.goal > boat.pound;
            if (locks[k].isHigh() == goesUp) {
                return IS_SHUT_OUT;
            }
            return canTurn(k) ? GOES : LACKS_WATER;
        }

        int tellBoat(int number, int what) {
            Boat boat = boats[number];
            switch (what) {
                case 0: return boat.pieces;
                case 1: return boat.draught;
                case 2: return boat.pound;
                case 3: return boat.goal;
                case 4: return boat.through;
                case 5: return boat.hasArrived() ? 1 : 0;
                case 6: return boat.lockNumber();
                case 7: return placeInQueue(number);
                case 8: return boat.passages;
                case 9: return boat.arrivedAt;
                default: return BAD_VALUE;
            }
        }

        int tellPound(int pound, int what) {
            switch (what) {
                case 0: return depths[pound];
                case 1: return boatsUnderWayIn(pound);
                case 2: return boatsArrivedIn(pound);
                case 3: return greatestDraughtIn(pound);
                default: return BAD_VALUE;
            }
        }

        int boatsUnderWayIn(int pound) {
            int boatSet = 0;
            for (int i = 0; i < boatCount; i++) {
                if (boats[i].isUnderWayIn(pound)) {
                    boatSet |= 1 << i;
                }
            }
            return boatSet;
        }

        int boatsArrivedIn(int pound) {
            int boatSet = 0;
            for (int i = 0; i < boatCount; i++) {
                if (boats[i].hasArrived() && boats[i].goal == pound) {
                    boatSet |= 1 << i;
                }
            }
            return boatSet;
        }

        int greatestDraughtIn(int pound) {
            int greatest = 0;
            for (int i = 0; i < boatCount; i++) {
                if (boats[i].isUnderWayIn(pound)) {
                    greatest = Math.max(greatest, boats[i].draught);
                }
            }
            return greatest;
        }

        int waterThere() {
            int sum = 0;
            for (int i = 0; i < POUNDS; i++) {
                sum += depths[i];
            }
            for (int i = 0; i < LOCKS; i++) {
                sum += locks[i].chamber;
            }
            return sum;
        }

        int waterByAccount() {
            return POUNDS * FIRST_DEPTH + fromSpring + letIn - lost - letOut;
        }

        int tellCount(int what) {
            switch (what) {
                case 0: return tick;
                case 1: return boatCount;
                case 2: return arrived;
                case 3: return countAground();
                case 4: return passagesOfAll();
                case 5: return fillingsOfAll();
                case 6: return lost;
                case 7: return fromSpring;
                case 8: return countHigh();
                case 9: return settings[SET_FILLING];
                case 10: return settings[SET_PIECES];
                case 11: return settings[SET_SPRING];
                default: return BAD_VALUE;
            }
        }

        int countAground() {
            int sum = 0;
            for (int i = 0; i < boatCount; i++) {
                if (!boats[i].hasArrived() && isAground(boats[i])) {
                    sum++;
                }
            }
            return sum;
        }

        int passagesOfAll() {
            int sum = 0;
            for (int i = 0; i < LOCKS; i++) {
                sum += locks[i].passages;
            }
            return sum;
        }

        int fillingsOfAll() {
            int sum = 0;
            for (int i = 0; i < LOCKS; i++) {
                sum += locks[i].fillings;
            }
            return sum;
        }

        int countHigh() {
            int sum = 0;
            for (int i = 0; i < LOCKS; i++) {
                sum += locks[i].isHigh() ? 1 : 0;
            }
            return sum;
        }
    }

    /** The latest states, the oldest one ahead; its canals are made once and written over. */
    private static final class History {
        final Canal[] states = new Canal[MOST_STATES];
        int size;

        History() {
            for (int i = 0; i < MOST_STATES; i++) {
                states[i] = new Canal();
            }
        }

        void push(Canal state) {
            if (size == MOST_STATES) {
                dropOldest();
            }
            states[size].copyFrom(state);
            size++;
        }

        void dropOldest() {
            Canal oldest = states[0];
            for (int i = 1; i < MOST_STATES; i++) {
                states[i - 1] = states[i];
            }
            states[MOST_STATES - 1] = oldest;
            size--;
        }

        /** Removes the latest state and answers it, null if there is none. */
        Canal takeLatest() {
            if (size == 0) {
                return null;
            }
            size--;
            return states[size];
        }
    }

    /** One thing that a traffic tells; which of the numbers it has depends on its kind. */
    private static final class Thing {
        int kind;
        int pieces;
        int from;
        int to;
        int draught;
        int lock;
        int ticks;
    }

    /** The text, and the things that were read from it. */
    private static final class Traffic {
        private static final int FAULT = -1;

        final char[] signs = new char[MOST_SIGNS];
        int length;
        final Thing[] things = new Thing[MOST_THINGS];
        int size;
        int place;

        Traffic() {
            for (int i = 0; i < MOST_THINGS; i++) {
                things[i] = new Thing();
            }
        }

        int addSign(char sign) {
            if (length >= MOST_SIGNS) {
                return FULL;
            }
            signs[length] = sign;
            length++;
            return length;
        }

        /** Reads the text; answers false if it has a fault, which is where the place then stands. */
        boolean readAll() {
            place = 0;
            size = 0;
            while (size < MOST_THINGS) {
                if (!readThing(things[size])) {
                    return false;
                }
                size++;
                if (place == length) {
                    return true;
                }
                if (!skip(';')) {
                    return false;
                }
            }
            return false;
        }

        boolean readThing(Thing thing) {
            if (skip('b')) {
                thing.pieces = 1;
                return readWay(thing);
            }
            if (skip('r')) {
                thing.pieces = readNumber(2, MOST_PIECES);
                return thing.pieces != FAULT && skip(':') && readWay(thing);
            }
            if (skip('x')) {
                thing.kind = THING_TURN;
                thing.lock = readNumber(0, LOCKS - 1);
                return thing.lock != FAULT;
            }
            if (skip('.')) {
                thing.kind = THING_TICKS;
                thing.ticks = readNumber(1, MOST_TICKS);
                return thing.ticks != FAULT;
            }
            return false;
        }

        boolean readWay(Thing thing) {
            thing.kind = THING_BOAT;
            thing.from = readNumber(0, POUNDS - 1);
            if (thing.from == FAULT || !skip('>')) {
                return false;
            }
            thing.to = readNumber(0, POUNDS - 1);
            if (thing.to == FAULT || !skip('@')) {
                return false;
            }
            thing.draught = readNumber(1, MOST_DRAUGHT);
            return thing.draught != FAULT;
        }

        boolean skip(char sign) {
            if (place >= length || signs[place] != sign) {
                return false;
            }
            place++;
            return true;
        }

        // All ranges start below 10 and end below 100: the first digit alone shows whether a number is
        // too small, and a third one is never allowed.
        int readNumber(int least, int most) {
            int value = digitHere();
            if (value < least || value > most) {
                return FAULT;
            }
            place++;
            int next = digitHere();
            if (value == 0 || next == FAULT || value * 10 + next > most) {
                return value;
            }
            place++;
            return value * 10 + next;
        }

        int digitHere() {
            if (place >= length || !isWithin(signs[place], '0', '9')) {
                return FAULT;
            }
            return signs[place] - '0';
        }
    }
}
