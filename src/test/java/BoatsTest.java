/** Promises 2, 3, 15, 18 and 19: boats, what is told of them, why they stay and when they arrive. */
public final class BoatsTest {
    private static final int LEAST = Integer.MIN_VALUE;
    private static final int MOST = Integer.MAX_VALUE;

    public static void main(String[] args) {
        boatComes();
        boatPieces();
        boatFromAndTo();
        boatDraught();
        boatFull();
        boatInPlaceOfOneUndone();
        load();
        loadDraught();
        loadRefused();
        loadUnderWay();
        boatOfNew();
        boatOfArrived();
        boatOfRaft();
        boatOfLocksAndPlaces();
        boatOfPassages();
        boatOfTheTickOfArrival();
        boatOfWrong();
        reasonUnknown();
        reasonOfEach();
        reasonOfEachGoingDown();
        reasonZero();
        reasonIsTheFirstThatHolds();
        reasonAtItsTurn();
        arrivesIn();
        arrivesInZero();
        arrivesInFiveHundred();
        Check.end();
    }

    private static void tell(CanalSteps x, int boat, int... due) {
        for (int what = 0; what < due.length; what++) {
            Check.due("boatOf(" + boat + ", " + what + ")", x.boatOf(boat, what), due[what]);
        }
    }

    private static void boatComes() {
        Check.says(2, "A boat comes. This is an act.");
        CanalSteps x = new CanalSteps();
        Check.due("a barge", x.boat(1, 0, 5, 1), 0);
        Check.due("a raft", x.boat(6, 5, 0, 60), 1);
        Check.due("another", x.boat(2, 5, 4, 7), 2);
        Check.due("boats so far", x.count(1), 3);
        Check.due("three acts", x.count(12), 3);
        tell(x, 0, 1, 1, 0, 5, 0, 0, 0, 0, 0, -5);
        tell(x, 1, 6, 60, 5, 0, 0, 0, 4, 0, 0, -5);
        tell(x, 2, 2, 7, 5, 4, 0, 0, 4, 1, 0, -5);
        Check.due("undone", x.undo() * 10 + x.count(1), 22);
        Check.due("no boat 2", x.boatOf(2, 0), -1);
    }

    private static void boatPieces() {
        Check.says(2, "`pieces`: 1 for a barge, 2 to 6 for a raft");
        CanalSteps x = new CanalSteps();
        int[] noPieces = {LEAST, -1, 0, 7, 8, MOST};
        for (int pieces : noPieces) {
            Check.due("pieces " + pieces, x.boat(pieces, 0, 1, 5), -2);
        }
        Check.due("no boat came", x.count(1) + x.count(12), 0);
        for (int pieces = 1; pieces <= 6; pieces++) {
            Check.due("pieces " + pieces, x.boat(pieces, 0, 1, 5), pieces - 1);
        }
    }

    private static void boatFromAndTo() {
        Check.says(2, "`from`: 0 to 5");
        CanalSteps x = new CanalSteps();
        int[] noPounds = {LEAST, -1, 6, MOST};
        for (int pound : noPounds) {
            Check.due("from " + pound, x.boat(1, pound, 1, 5), -1);
            Check.due("UNKNOWN ahead of BAD_VALUE", x.boat(0, pound, pound, 0), -1);
        }
        Check.due("from 0", x.boat(1, 0, 1, 5), 0);
        Check.due("from 5", x.boat(1, 5, 1, 5), 1);
        Check.says(2, "`to`: 0 to 5: its goal");
        for (int pound : noPounds) {
            Check.due("to " + pound, x.boat(1, 1, pound, 5), -1);
            Check.due("UNKNOWN ahead of BAD_VALUE", x.boat(7, 1, pound, 61), -1);
        }
        Check.due("to 0", x.boat(1, 1, 0, 5), 2);
        Check.due("to 5", x.boat(1, 1, 5, 5), 3);
        Check.says(2, "Returns its number; UNKNOWN (from or to); BAD_VALUE (also if both are the same);");
        for (int pound = 0; pound < 6; pound++) {
            Check.due("from and to " + pound, x.boat(1, pound, pound, 5), -2);
        }
        Check.due("four boats came", x.count(1) * 10 + x.count(12), 44);
    }

    private static void boatDraught() {
        Check.says(2, "`draught`: 1 to 60");
        CanalSteps x = new CanalSteps();
        int[] noDraughts = {LEAST, -1, 0, 61, MOST};
        for (int draught : noDraughts) {
            Check.due("draught " + draught, x.boat(1, 0, 1, draught), -2);
        }
        Check.due("no boat came", x.count(1) + x.count(12), 0);
        Check.due("draught 1", x.boat(1, 0, 1, 1), 0);
        Check.due("draught 60", x.boat(1, 0, 1, 60), 1);
        tell(x, 0, 1, 1);
        tell(x, 1, 1, 60);
    }

    private static void boatFull() {
        Check.says(2, "FULL if 16 came.");
        CanalSteps x = new CanalSteps();
        for (int i = 0; i < 16; i++) {
            Check.due("number", x.boat(1, 2, 3, 5), i);
        }
        Check.due("a 17th boat", x.boat(1, 0, 1, 5), -3);
        Check.due("BAD_VALUE ahead of FULL", x.boat(1, 1, 1, 5), -2);
        Check.due("UNKNOWN ahead of FULL", x.boat(1, 1, 6, 5), -1);
        Check.due("all in one queue", x.lock(2, 1), 16);
        Check.due("the last one's place", x.boatOf(15, 7), 15);
        Check.due("all as a set", x.pound(2, 1), 65535);
        Check.due("FULL is no act", x.undo(), 3);
        Check.due("boats that arrived still count", x.pass(99), 15);
        Check.due("all that arrived as a set", x.pound(3, 2), 32767);
        Check.due("room for one after undo", x.boat(1, 0, 1, 5), 15);
        Check.due("and for no other", x.boat(1, 0, 1, 5), -3);
    }

    private static void boatInPlaceOfOneUndone() {
        Check.says(2, "Returns its number;");
        CanalSteps x = new CanalSteps();
        x.keep();
        x.boat(1, 0, 1, 20);
        x.pass(1);
        x.restore();
        Check.due("the number again", x.boat(3, 2, 0, 9), 0);
        tell(x, 0, 3, 9, 2, 0, 0, 0, 1, 0, 0, -5);
        x.pass(2);
        tell(x, 0, 3, 9, 2, 0, 2, 0, 1, 0, 1, -5);
        x.restore();
        Check.due("and again", x.boat(4, 5, 4, 7), 0);
        tell(x, 0, 4, 7, 5, 4, 0, 0, 4, 0, 0, -5);
    }

    private static void load() {
        Check.says(3, "Lightens a boat, or loads it. This is an act.");
        CanalSteps x = new CanalSteps();
        x.boat(1, 0, 1, 20);
        Check.due("loaded to 60", x.load(0, 60), 20);
        Check.due("told", x.boatOf(0, 1), 60);
        Check.due("so already", x.load(0, 60), -5);
        Check.due("lightened to 1", x.load(0, 1), 60);
        Check.due("an act each, NONE is none", x.count(12), 3);
        Check.due("undone", x.undo() + x.boatOf(0, 1), 62);
        Check.due("aground then", x.count(3), 1);
        x.load(0, 40);
        Check.due("40 floats in 40", x.count(3), 0);
        x.load(0, 41);
        Check.due("41 does not", x.count(3), 1);
    }

    private static void loadDraught() {
        Check.says(3, "`draught`: 1 to 60");
        CanalSteps x = new CanalSteps();
        x.boat(1, 0, 1, 20);
        int[] noDraughts = {LEAST, -1, 0, 61, MOST};
        for (int draught : noDraughts) {
            Check.due("draught " + draught, x.load(0, draught), -2);
        }
        Check.due("no act", x.count(12) * 100 + x.boatOf(0, 1), 120);
        Check.due("to 1", x.load(0, 1), 20);
        Check.due("to 60", x.load(0, 60), 1);
        Check.due("from 60", x.load(0, 59), 60);
    }

    private static void loadRefused() {
        Check.says(3, "`boat`: a boat");
        CanalSteps x = new CanalSteps();
        Check.due("no boat came", x.load(0, 5), -1);
        x.boat(1, 0, 1, 20);
        int[] noBoats = {LEAST, -1, 1, 15, 16, MOST};
        for (int boat : noBoats) {
            Check.due("boat " + boat, x.load(boat, 5), -1);
            Check.due("UNKNOWN ahead of BAD_VALUE", x.load(boat, 0), -1);
        }
        Check.says(3, "Returns the previous draught; UNKNOWN; BAD_VALUE; NOT_POSSIBLE if it has arrived; "
            + "NONE if it is so already.");
        Check.due("so already", x.load(0, 20), -5);
        x.pass(1);
        Check.due("BAD_VALUE ahead of NOT_POSSIBLE", x.load(0, 61), -2);
        Check.due("arrived", x.load(0, 5), -4);
        Check.due("NOT_POSSIBLE ahead of NONE", x.load(0, 20), -4);
        Check.due("none was an act", x.count(12), 2);
        Check.due("the draught stays", x.boatOf(0, 1), 20);
    }

    private static void loadUnderWay() {
        Check.says(3, "NOT_POSSIBLE if it has arrived;");
        CanalSteps x = new CanalSteps();
        x.boat(3, 0, 2, 20);
        x.pass(1);
        Check.due("in two pounds", x.load(0, 21), 20);
        x.pass(2);
        Check.due("in the pound 1", x.boatOf(0, 2) * 100 + x.load(0, 22), 121);
        x.pass(2);
        Check.due("in its goal", x.boatOf(0, 5), 1);
        Check.due("arrived", x.load(0, 23), -4);
    }

    private static void boatOfNew() {
        Check.says(15, "`what`: 0 for its pieces, 1 for its draught, "
            + "2 for the pound from which it goes now (that where it is, if it has arrived), 3 for its goal,");
        CanalSteps x = new CanalSteps();
        x.boat(1, 3, 4, 9);
        x.boat(6, 3, 2, 60);
        tell(x, 0, 1, 9, 3, 4, 0, 0, 3, 0, 0, -5);
        tell(x, 1, 6, 60, 3, 2, 0, 0, 2, 0, 0, -5);
        x.pass(1);
        tell(x, 0, 1, 9, 4, 4, 0, 1, -5, -5, 1, 0);
        tell(x, 1, 6, 60, 3, 2, 0, 0, 2, 0, 0, -5);
    }

    private static void boatOfArrived() {
        Check.says(15, "5 for whether it has arrived (1, otherwise 0),");
        int[][] ways = {{0, 1}, {0, 5}, {1, 0}, {5, 0}, {2, 3}, {3, 2}};
        for (int[] way : ways) {
            CanalSteps x = new CanalSteps();
            x.boat(2, way[0], way[1], 1);
            Check.due("not yet", x.boatOf(0, 5), 0);
            int ticks = x.arrivesIn(0);
            x.pass(ticks);
            int passages = Math.abs(way[0] - way[1]);
            tell(x, 0, 2, 1, way[1], way[1], 0, 1, -5, -5, passages, ticks - 1);
            x.pass(9);
            tell(x, 0, 2, 1, way[1], way[1], 0, 1, -5, -5, passages, ticks - 1);
        }
    }

    // Five pieces, two at a time: each going through is a passage, and each needs the chamber turned back.
    private static void boatOfRaft() {
        Check.says(15, "4 for its pieces that are in the next pound already,");
        CanalSteps x = new CanalSteps();
        x.boat(5, 0, 2, 9);
        Check.due("the first two", x.pass(1), 0);
        tell(x, 0, 5, 9, 0, 2, 2, 0, 0, 0, 1, -5);
        Check.due("in both pounds", x.pound(0, 1) * 10 + x.pound(1, 1), 11);
        Check.due("still in the queue", x.lock(0, 1), 1);
        x.pass(1);
        tell(x, 0, 5, 9, 0, 2, 2, 0, 0, 0, 1, -5);
        x.pass(1);
        tell(x, 0, 5, 9, 0, 2, 4, 0, 0, 0, 2, -5);
        x.pass(1);
        Check.due("the last one, and two in the next lock", x.pass(1), 0);
        tell(x, 0, 5, 9, 1, 2, 2, 0, 1, 0, 4, -5);
        Check.due("no piece in the pound 0", x.pound(0, 1), 0);
        x.pass(3);
        tell(x, 0, 5, 9, 1, 2, 4, 0, 1, 0, 5, -5);
        Check.due("it arrives", x.pass(1), 1);
        tell(x, 0, 5, 9, 2, 2, 0, 1, -5, -5, 6, 8);
        Check.due("passages of the lock 0", x.lock(0, 5), 3);
        Check.due("passages of the lock 1", x.lock(1, 5), 3);
        Check.due("passages of all", x.count(4), 6);
    }

    private static void boatOfLocksAndPlaces() {
        Check.says(15, "6 for the lock at which it is (NONE if it has arrived), "
            + "7 for its place in the queue there, from 0 (NONE if it has arrived),");
        CanalSteps x = Check.withoutSpring();
        x.boat(1, 5, 3, 1);
        x.boat(1, 5, 4, 1);
        x.boat(1, 0, 1, 1);
        for (int boat = 0; boat < 2; boat++) {
            Check.due("the lock", x.boatOf(boat, 6), 4);
            Check.due("the place", x.boatOf(boat, 7), boat);
        }
        Check.due("the lock 0, and first", x.boatOf(2, 6) + x.boatOf(2, 7), 0);
        x.pass(2);
        Check.due("the next lock", x.boatOf(0, 6) * 10 + x.boatOf(0, 7), 30);
        Check.due("first now", x.boatOf(1, 6) * 10 + x.boatOf(1, 7), 40);
        Check.due("no lock", x.boatOf(2, 6), -5);
        Check.due("no place", x.boatOf(2, 7), -5);
    }

    private static void boatOfPassages() {
        Check.says(15, "8 for passages through locks so far,");
        CanalSteps x = Check.withoutSpring();
        x.boat(1, 0, 5, 1);
        x.boat(6, 4, 5, 1);
        Check.due("none yet", x.boatOf(0, 8) + x.boatOf(1, 8), 0);
        x.pass(1);
        Check.due("four locks", x.boatOf(0, 8), 4);
        Check.due("two of six pieces", x.boatOf(1, 8), 1);
        x.pass(4);
        Check.due("all six", x.boatOf(1, 8) * 10 + x.boatOf(1, 5), 31);
        x.pass(2);
        Check.due("five locks", x.boatOf(0, 8) * 10 + x.boatOf(0, 5), 51);
    }

    private static void boatOfTheTickOfArrival() {
        Check.says(15, "9 for the tick in which it arrived, as it was ahead of that (NONE if it has not)");
        CanalSteps x = new CanalSteps();
        x.boat(1, 1, 2, 1);
        x.boat(1, 1, 2, 1);
        Check.due("not yet", x.boatOf(0, 9), -5);
        x.pass(1);
        Check.due("in the tick 0", x.boatOf(0, 9), 0);
        Check.due("not yet", x.boatOf(1, 9), -5);
        x.pass(1);
        Check.due("not yet", x.boatOf(1, 9), -5);
        x.pass(1);
        Check.due("in the tick 2", x.boatOf(1, 9), 2);
        Check.due("that of the first one stays", x.boatOf(0, 9), 0);
    }

    private static void boatOfWrong() {
        Check.says(15, "`boat`: a boat");
        CanalSteps x = new CanalSteps();
        Check.due("no boat came", x.boatOf(0, 0), -1);
        x.boat(1, 0, 1, 20);
        int[] noBoats = {LEAST, -1, 1, 15, 16, MOST};
        int[] noQuestions = {LEAST, -1, 10, MOST};
        for (int boat : noBoats) {
            Check.due("boat " + boat, x.boatOf(boat, 0), -1);
            for (int what : noQuestions) {
                Check.due("UNKNOWN ahead of BAD_VALUE", x.boatOf(boat, what), -1);
            }
        }
        Check.says(15, "Returns the number; UNKNOWN; BAD_VALUE.");
        for (int what : noQuestions) {
            Check.due("what " + what, x.boatOf(0, what), -2);
        }
    }

    private static void reasonUnknown() {
        Check.says(18, "`boat`: a boat");
        CanalSteps x = new CanalSteps();
        Check.due("no boat came", x.reason(0), -1);
        x.boat(1, 0, 1, 20);
        int[] noBoats = {LEAST, -1, 1, 15, 16, MOST};
        for (int boat : noBoats) {
            Check.due("boat " + boat, x.reason(boat), -1);
        }
    }

    private static void reasonOfEach() {
        Check.says(18, "Tells why a boat does not go on in the next tick.");
        CanalSteps x = new CanalSteps();
        x.boat(1, 0, 1, 40);
        x.boat(1, 0, 1, 41);
        x.boat(1, 0, 1, 40);
        x.boat(1, 1, 0, 40);
        Check.due("goes", x.reason(0), 0);
        Check.due("aground ahead of being behind", x.reason(1), 2);
        Check.due("behind", x.reason(2), 3);
        Check.due("open to the other side", x.reason(3), 4);
        x.setDepth(1, 5);
        x.load(0, 5);
        Check.due("cannot be filled", x.reason(0), 5);
        Check.due("aground ahead of the other side", x.reason(3), 2);
        Check.due("it stays", x.pass(1) + x.boatOf(0, 5), 0);
        x.setDepth(1, 6);
        Check.due("can be filled", x.reason(0), 0);
        Check.due("it goes", x.pass(1), 1);
        Check.due("arrived", x.reason(0), 1);
        x.setDepth(1, 0);
        Check.due("arrived, in too little water", x.reason(0), 1);
    }

    private static void reasonOfEachGoingDown() {
        Check.says(18, "Tells why a boat does not go on in the next tick.");
        for (int k = 0; k < 5; k++) {
            CanalSteps x = Check.withoutSpring();
            x.boat(1, k + 1, k, 34);
            x.boat(1, k + 1, k, 34);
            Check.due("low, it is open to the other side", x.reason(0), 4);
            Check.due("behind", x.reason(1), 3);
            x.setDepth(k + 1, 33);
            Check.due("aground where it is", x.reason(0) * 10 + x.reason(1), 22);
            x.setDepth(k + 1, 40);
            x.setDepth(k, 33);
            Check.due("aground in the next pound", x.reason(0) * 10 + x.reason(1), 22);
            x.setDepth(k, 34);
            x.pass(1);
            Check.due("high, it goes", x.reason(0), 0);
            Check.due("it does", x.pass(1) + x.reason(0), 2);
        }
    }

    private static void reasonZero() {
        Check.says(18, "Returns 0 if a piece of it goes through a lock in it;");
        CanalSteps x = Check.withoutSpring();
        x.set(1, 1);
        x.boat(2, 0, 2, 5);
        Check.due("one piece of two", x.reason(0), 0);
        x.pass(1);
        Check.due("the chamber is at the other side", x.reason(0), 4);
        x.pass(1);
        Check.due("the last piece", x.reason(0), 0);
        x.pass(1);
        Check.due("in the pound 1, a piece of it beyond already", x.boatOf(0, 2) * 10 + x.boatOf(0, 4), 11);
        x.pass(2);
        Check.due("arrived", x.boatOf(0, 5) * 10 + x.reason(0), 11);
    }

    private static void reasonIsTheFirstThatHolds() {
        Check.says(18, "the first that holds: 1 it has arrived, 2 it lies aground, "
            + "3 another boat is ahead of it in its queue, 4 the chamber is open to the other side, "
            + "5 the chamber cannot be filled;");
        CanalSteps x = Check.withoutSpring();
        x.boat(1, 1, 0, 9);
        x.boat(1, 0, 1, 9);
        x.boat(1, 0, 1, 9);
        x.turnLock(0);
        x.setDepth(1, 0);
        Check.due("2, 3, 4 hold", x.reason(2), 2);
        x.setDepth(1, 9);
        Check.due("3, 4 hold", x.reason(2), 3);
        Check.due("4 holds", x.reason(1), 4);
        x.set(0, 20);
        x.turnLock(0);
        Check.due("3, 5 hold", x.reason(2), 3);
        Check.due("5 holds", x.reason(1), 5);
        Check.due("4 holds, and it could not be filled", x.reason(0), 4);
        x.load(1, 10);
        Check.due("2, 5 hold", x.reason(1), 2);
        x.setDepth(1, 20);
        Check.due("none holds", x.reason(1), 0);
        x.pass(1);
        Check.due("1, 2 hold", x.boatOf(1, 5) * 10 + x.reason(1), 11);
    }

    private static void reasonAtItsTurn() {
        Check.says(18, "UNKNOWN (2 to 5 as things are when it is the turn of its lock in that tick).");
        CanalSteps x = new CanalSteps();
        x.boat(1, 0, 1, 10);
        x.boat(1, 1, 2, 35);
        Check.due("the lock 0 has taken water by then", x.reason(1), 2);
        Check.due("though it floats now", x.count(3), 0);
        CanalSteps y = new CanalSteps();
        y.turnLock(0);
        y.setDepth(0, 35);
        y.boat(1, 2, 0, 30);
        y.boat(1, 1, 0, 40);
        Check.due("aground, the lock 0 comes first", y.reason(1), 2);
        y.load(1, 34);
        Check.due("goes", y.reason(1), 0);
        Check.due("its chamber is low", y.reason(0), 4);
        CanalSteps z = new CanalSteps();
        z.boat(1, 0, 1, 5);
        z.setDepth(2, 5);
        z.boat(1, 1, 2, 5);
        z.boat(1, 0, 2, 5);
        Check.due("too little above", z.reason(1), 5);
        Check.due("behind at its own lock", z.reason(2), 3);
        CanalSteps late = new CanalSteps();
        late.setDepth(5, 3);
        late.boat(1, 4, 5, 3);
        Check.due("the water of the spring comes behind its turn", late.reason(0), 5);
        late.pass(1);
        Check.due("so it stayed, and goes now", late.boatOf(0, 5) * 10 + late.reason(0), 0);
        String was = Check.picture(z);
        z.reason(1);
        Check.samePicture("changes nothing", z, was);
    }

    private static void arrivesIn() {
        Check.says(19, "Tells in how many ticks a boat arrives, if nothing else is done.");
        CanalSteps x = new CanalSteps();
        x.boat(1, 0, 5, 20);
        x.boat(1, 0, 5, 20);
        x.boat(1, 5, 0, 20);
        String was = Check.picture(x);
        Check.due("five locks in one tick", x.arrivesIn(0), 1);
        int second = x.arrivesIn(1);
        int third = x.arrivesIn(2);
        Check.samePicture("changes nothing", x, was);
        Check.due("no act", x.count(12), 3);
        x.pass(second - 1);
        Check.due("not yet", x.boatOf(1, 5), 0);
        Check.due("one more", x.arrivesIn(1), 1);
        x.pass(1);
        Check.due("now", x.boatOf(1, 5), 1);
        Check.due("the way down", x.arrivesIn(2), third - second);
        Check.due("the tick", x.pass(99) + x.boatOf(2, 9), third);
    }

    private static void arrivesInZero() {
        Check.says(19, "`boat`: a boat");
        CanalSteps x = new CanalSteps();
        Check.due("no boat came", x.arrivesIn(0), -1);
        x.boat(1, 0, 1, 20);
        int[] noBoats = {LEAST, -1, 1, 15, 16, MOST};
        for (int boat : noBoats) {
            Check.due("boat " + boat, x.arrivesIn(boat), -1);
        }
        Check.says(19, "Returns how many, 0 if it has arrived; UNKNOWN;");
        Check.due("in one", x.arrivesIn(0), 1);
        x.pass(1);
        Check.due("has arrived", x.arrivesIn(0), 0);
        x.pass(99);
        Check.due("long ago", x.arrivesIn(0), 0);
    }

    private static void arrivesInFiveHundred() {
        Check.says(19, "NONE if that is not within 500.");
        CanalSteps never = Check.withoutSpring();
        never.boat(1, 0, 1, 60);
        Check.due("never", never.arrivesIn(0), -5);
        CanalSteps turned = new CanalSteps();
        turned.setDepth(5, 0);
        turned.setDepth(4, 52);
        turned.set(2, 1);
        turned.boat(1, 5, 4, 52);
        Check.due("6 ticks, a filling in the 7th, 52 of water after the 58th", turned.arrivesIn(0), 59);
        Check.due("500 is within 500", waitForWater(49).arrivesIn(0), 500);
        Check.due("501 is not", waitForWater(50).arrivesIn(0), -5);
        CanalSteps later = waitForWater(50);
        later.pass(1);
        Check.due("one tick later it is", later.arrivesIn(0), 500);
    }

    // A spring of 1 fills five empty pounds in 450 ticks, and only then the pound 0 gets its first water.
    private static CanalSteps waitForWater(int draught) {
        CanalSteps x = new CanalSteps();
        x.turnLock(0);
        for (int pound = 0; pound < 6; pound++) {
            x.setDepth(pound, 0);
        }
        x.set(2, 1);
        x.boat(1, 1, 0, draught);
        return x;
    }
}
