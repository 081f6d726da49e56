/** Promises 2, 3, 15, 18 and 19: boats, what is told of them, why they stay and when they arrive. */
public final class BoatsTest {
    private static final int LEAST = Integer.MIN_VALUE;
    private static final int MOST = Integer.MAX_VALUE;

    public static void main(String[] args) {
        boatOrdinary();
        boatWrong();
        boatFull();
        boatInPlaceOfOneUndone();
        load();
        loadWrong();
        boatOfNew();
        boatOfRaft();
        boatOfWrong();
        upIsLookedAtInTheSameTick();
        downIsLookedAtInTheNextTick();
        reasonOfEach();
        reasonAtItsTurn();
        arrivesIn();
        arrivesInEdges();
        Check.end();
    }

    private static void tell(CanalSteps x, int boat, int... due) {
        for (int what = 0; what < due.length; what++) {
            Check.due("15: boatOf(" + boat + ", " + what + ")", x.boatOf(boat, what), due[what]);
        }
    }

    private static void boatOrdinary() {
        CanalSteps x = new CanalSteps();
        Check.due("2: a barge", x.boat(1, 0, 5, 1), 0);
        Check.due("2: a raft", x.boat(6, 5, 0, 60), 1);
        Check.due("2: another", x.boat(2, 5, 4, 7), 2);
        Check.due("2: boats so far", x.count(1), 3);
        Check.due("2: is an act", x.count(12), 3);
        tell(x, 0, 1, 1, 0, 5, 0, 0, 0, 0, 0, -5);
        tell(x, 1, 6, 60, 5, 0, 0, 0, 4, 0, 0, -5);
        tell(x, 2, 2, 7, 5, 4, 0, 0, 4, 1, 0, -5);
    }

    private static void boatWrong() {
        CanalSteps x = new CanalSteps();
        int[] noPounds = {LEAST, -1, 6, MOST};
        for (int pound : noPounds) {
            Check.due("2: from " + pound, x.boat(1, pound, 1, 5), -1);
            Check.due("2: to " + pound, x.boat(1, 1, pound, 5), -1);
            Check.due("2: UNKNOWN comes ahead of BAD_VALUE", x.boat(0, pound, pound, 0), -1);
        }
        int[] noPieces = {LEAST, -1, 0, 7, MOST};
        for (int pieces : noPieces) {
            Check.due("2: pieces " + pieces, x.boat(pieces, 0, 1, 5), -2);
        }
        int[] noDraughts = {LEAST, -1, 0, 61, MOST};
        for (int draught : noDraughts) {
            Check.due("2: draught " + draught, x.boat(1, 0, 1, draught), -2);
        }
        for (int pound = 0; pound < 6; pound++) {
            Check.due("2: from and to the same", x.boat(1, pound, pound, 5), -2);
        }
        Check.due("2: an error is no act", x.count(12), 0);
        Check.due("2: no boat came", x.count(1), 0);
    }

    private static void boatFull() {
        CanalSteps x = new CanalSteps();
        for (int i = 0; i < 16; i++) {
            Check.due("2: number", x.boat(1, 2, 3, 5), i);
        }
        Check.due("2: a 17th boat", x.boat(1, 0, 1, 5), -3);
        Check.due("2: BAD_VALUE ahead of FULL", x.boat(1, 1, 1, 5), -2);
        Check.due("2: UNKNOWN ahead of FULL", x.boat(1, 1, 6, 5), -1);
        Check.due("16: all in one queue", x.lock(2, 1), 16);
        Check.due("15: the last one's place", x.boatOf(15, 7), 15);
        Check.due("17: all as a set", x.pound(2, 1), 65535);
        Check.due("2: FULL is no act", x.undo(), 3);
        Check.due("2: boats that arrived still count", x.pass(99), 15);
        Check.due("17: all that arrived as a set", x.pound(3, 2), 32767);
        Check.due("2: room for one after undo", x.boat(1, 0, 1, 5), 15);
        Check.due("2: and for no other", x.boat(1, 0, 1, 5), -3);
        CanalSteps y = new CanalSteps();
        for (int i = 0; i < 16; i++) {
            y.boat(1, 2, 3, 5);
        }
        Check.due("7: a queue of all boats", y.pass(99), 16);
        Check.due("16: empty then", y.lock(2, 1) + y.lock(2, 3), -5);
    }

    private static void boatInPlaceOfOneUndone() {
        CanalSteps x = new CanalSteps();
        x.keep();
        x.boat(1, 0, 1, 20);
        x.pass(1);
        x.restore();
        Check.due("2: the number again", x.boat(3, 2, 0, 9), 0);
        tell(x, 0, 3, 9, 2, 0, 0, 0, 1, 0, 0, -5);
        x.pass(2);
        tell(x, 0, 3, 9, 2, 0, 2, 0, 1, 0, 1, -5);
        x.restore();
        Check.due("2: and again", x.boat(4, 5, 4, 7), 0);
        tell(x, 0, 4, 7, 5, 4, 0, 0, 4, 0, 0, -5);
    }

    private static void load() {
        CanalSteps x = new CanalSteps();
        x.boat(1, 0, 1, 20);
        Check.due("3: load to 60", x.load(0, 60), 20);
        Check.due("3: told", x.boatOf(0, 1), 60);
        Check.due("3: so already", x.load(0, 60), -5);
        Check.due("3: lighten to 1", x.load(0, 1), 60);
        Check.due("3: is an act, NONE is none", x.count(12), 3);
        Check.due("3: undone", x.undo() + x.boatOf(0, 1), 62);
        Check.due("3: aground then", x.count(3), 1);
        x.load(0, 40);
        Check.due("3: 40 floats in 40", x.count(3), 0);
        x.load(0, 41);
        Check.due("3: 41 does not", x.count(3), 1);
    }

    private static void loadWrong() {
        CanalSteps x = new CanalSteps();
        Check.due("3: no boat", x.load(0, 5), -1);
        x.boat(1, 0, 1, 20);
        Check.due("3: boat -1", x.load(-1, 5), -1);
        Check.due("3: boat 1", x.load(1, 0), -1);
        Check.due("3: boat of the greatest number", x.load(MOST, 5), -1);
        Check.due("3: boat of the least number", x.load(LEAST, 5), -1);
        Check.due("3: draught 0", x.load(0, 0), -2);
        Check.due("3: draught 61", x.load(0, 61), -2);
        x.pass(1);
        Check.due("3: BAD_VALUE ahead of NOT_POSSIBLE", x.load(0, 61), -2);
        Check.due("3: arrived", x.load(0, 5), -4);
        Check.due("3: NOT_POSSIBLE ahead of NONE", x.load(0, 20), -4);
        Check.due("3: errors are no acts", x.count(12), 2);
    }

    private static void boatOfNew() {
        CanalSteps x = new CanalSteps();
        x.boat(1, 3, 4, 9);
        x.boat(1, 3, 2, 9);
        tell(x, 0, 1, 9, 3, 4, 0, 0, 3, 0, 0, -5);
        tell(x, 1, 1, 9, 3, 2, 0, 0, 2, 0, 0, -5);
        x.pass(1);
        tell(x, 0, 1, 9, 4, 4, 0, 1, -5, -5, 1, 0);
        tell(x, 1, 1, 9, 3, 2, 0, 0, 2, 0, 0, -5);
        x.pass(1);
        tell(x, 1, 1, 9, 2, 2, 0, 1, -5, -5, 1, 1);
    }

    // Five pieces, two at a time: each going through is a passage, and each needs the chamber turned back.
    private static void boatOfRaft() {
        CanalSteps x = new CanalSteps();
        x.boat(5, 0, 2, 9);
        Check.due("7: the first two", x.pass(1), 0);
        tell(x, 0, 5, 9, 0, 2, 2, 0, 0, 0, 1, -5);
        Check.due("17: in both pounds", x.pound(0, 1) * 10 + x.pound(1, 1), 11);
        Check.due("16: still in the queue", x.lock(0, 1), 1);
        x.pass(1);
        tell(x, 0, 5, 9, 0, 2, 2, 0, 0, 0, 1, -5);
        x.pass(1);
        tell(x, 0, 5, 9, 0, 2, 4, 0, 0, 0, 2, -5);
        x.pass(1);
        Check.due("7: the last one, and two in the next lock", x.pass(1), 0);
        tell(x, 0, 5, 9, 1, 2, 2, 0, 1, 0, 4, -5);
        Check.due("17: no piece in the pound 0", x.pound(0, 1), 0);
        x.pass(3);
        tell(x, 0, 5, 9, 1, 2, 4, 0, 1, 0, 5, -5);
        Check.due("7: it arrives", x.pass(1), 1);
        tell(x, 0, 5, 9, 2, 2, 0, 1, -5, -5, 6, 8);
        Check.due("16: passages of the lock 0", x.lock(0, 5), 3);
        Check.due("16: passages of the lock 1", x.lock(1, 5), 3);
        Check.due("23: passages", x.count(4), 6);
        x.set(1, 6);
        x.boat(6, 0, 1, 9);
        x.boat(6, 0, 1, 9);
        Check.due("6: all six at a time", x.pass(3), 1);
        Check.due("15: one passage", x.boatOf(1, 8), 1);
        x.set(1, 1);
        Check.due("6: one at a time", x.pass(2) + x.boatOf(2, 4), 1);
        Check.due("17: the one piece is in the next pound", x.pound(1, 1), 4);
    }

    private static void boatOfWrong() {
        CanalSteps x = new CanalSteps();
        Check.due("15: no boat", x.boatOf(0, 0), -1);
        x.boat(1, 0, 1, 20);
        int[] noBoats = {LEAST, -1, 1, 16, MOST};
        for (int boat : noBoats) {
            Check.due("15: boat " + boat, x.boatOf(boat, 0), -1);
            Check.due("15: UNKNOWN ahead of BAD_VALUE", x.boatOf(boat, 10), -1);
            Check.due("18: boat " + boat, x.reason(boat), -1);
            Check.due("19: boat " + boat, x.arrivesIn(boat), -1);
        }
        int[] noQuestions = {LEAST, -1, 10, MOST};
        for (int what : noQuestions) {
            Check.due("15: what " + what, x.boatOf(0, what), -2);
        }
    }

    private static void upIsLookedAtInTheSameTick() {
        CanalSteps x = new CanalSteps();
        x.boat(1, 1, 4, 10);
        x.boat(1, 0, 3, 10);
        Check.due("7: the first one", x.pass(1), 1);
        tell(x, 1, 1, 10, 1, 3, 0, 0, 1, 0, 1, -5);
        Check.due("16: the lock 1 is high", x.lock(1, 0), 1);
        x.pass(1);
        Check.due("16: the lock 1 is turned for the second", x.lock(1, 0), 0);
        Check.due("7: through two locks in one tick", x.pass(2), 1);
        tell(x, 1, 1, 10, 3, 3, 0, 1, -5, -5, 3, 3);
    }

    private static void downIsLookedAtInTheNextTick() {
        CanalSteps x = new CanalSteps();
        for (int lock = 0; lock < 5; lock++) {
            x.turnLock(lock);
        }
        x.boat(1, 5, 2, 10);
        x.pass(1);
        tell(x, 0, 1, 10, 4, 2, 0, 0, 3, 0, 1, -5);
        x.pass(1);
        tell(x, 0, 1, 10, 3, 2, 0, 0, 2, 0, 2, -5);
        Check.due("7: one lock each tick", x.pass(1), 1);
        tell(x, 0, 1, 10, 2, 2, 0, 1, -5, -5, 3, 2);
    }

    private static void reasonOfEach() {
        CanalSteps x = new CanalSteps();
        Check.due("18: no boat", x.reason(0), -1);
        x.boat(1, 0, 1, 40);
        x.boat(1, 0, 1, 41);
        x.boat(1, 0, 1, 40);
        x.boat(1, 1, 0, 40);
        Check.due("18: goes", x.reason(0), 0);
        Check.due("18: aground ahead of being behind", x.reason(1), 2);
        Check.due("18: behind", x.reason(2), 3);
        Check.due("18: open to the other side", x.reason(3), 4);
        x.setDepth(1, 5);
        x.load(0, 5);
        Check.due("18: cannot be filled", x.reason(0), 5);
        Check.due("18: aground ahead of the other side", x.reason(3), 2);
        Check.due("7: it stays", x.pass(1) + x.boatOf(0, 5), 0);
        x.setDepth(1, 6);
        Check.due("18: can be filled", x.reason(0), 0);
        Check.due("7: it goes", x.pass(1), 1);
        Check.due("18: arrived", x.reason(0), 1);
        x.setDepth(1, 0);
        Check.due("18: arrived, in too little water", x.reason(0), 1);
    }

    private static void reasonAtItsTurn() {
        CanalSteps x = new CanalSteps();
        x.boat(1, 0, 1, 10);
        x.boat(1, 1, 2, 35);
        Check.due("18: the lock 0 has taken water by then", x.reason(1), 2);
        Check.due("23: though it floats now", x.count(3), 0);
        CanalSteps y = new CanalSteps();
        y.turnLock(0);
        y.setDepth(0, 35);
        y.boat(1, 2, 0, 30);
        y.boat(1, 1, 0, 40);
        Check.due("18: aground, the lock 0 comes first", y.reason(1), 2);
        y.load(1, 34);
        Check.due("18: goes", y.reason(1), 0);
        Check.due("18: its chamber is low", y.reason(0), 4);
        CanalSteps z = new CanalSteps();
        z.boat(1, 0, 1, 5);
        z.setDepth(2, 5);
        z.boat(1, 1, 2, 5);
        z.boat(1, 0, 2, 5);
        Check.due("18: too little above", z.reason(1), 5);
        Check.due("18: behind at its own lock", z.reason(2), 3);
        String was = Check.picture(z);
        z.reason(1);
        Check.samePicture("18: changes nothing", z, was);
    }

    private static void arrivesIn() {
        CanalSteps x = new CanalSteps();
        x.boat(1, 0, 5, 20);
        x.boat(1, 0, 5, 20);
        x.boat(1, 5, 0, 20);
        String was = Check.picture(x);
        Check.due("19: five locks in one tick", x.arrivesIn(0), 1);
        int second = x.arrivesIn(1);
        int third = x.arrivesIn(2);
        Check.samePicture("19: changes nothing", x, was);
        Check.due("19: no act", x.count(12), 3);
        x.pass(second - 1);
        Check.due("19: not yet", x.boatOf(1, 5), 0);
        Check.due("19: one more", x.arrivesIn(1), 1);
        x.pass(1);
        Check.due("19: now", x.boatOf(1, 5), 1);
        Check.due("19: has arrived", x.arrivesIn(1), 0);
        Check.due("19: the way down", x.arrivesIn(2), third - second);
        Check.due("19: the tick", x.pass(99) + x.boatOf(2, 9), third);
    }

    private static void arrivesInEdges() {
        CanalSteps never = new CanalSteps();
        never.boat(1, 0, 1, 60);
        never.set(2, 0);
        Check.due("19: never", never.arrivesIn(0), -5);
        CanalSteps turned = new CanalSteps();
        turned.setDepth(5, 0);
        turned.setDepth(4, 52);
        turned.set(2, 1);
        turned.boat(1, 5, 4, 52);
        Check.due("19: 6 ticks, a filling in the 7th, 52 of water after the 58th", turned.arrivesIn(0), 59);
        Check.due("19: 500 is within 500", waitForWater(49).arrivesIn(0), 500);
        Check.due("19: 501 is not", waitForWater(50).arrivesIn(0), -5);
    }

    // A spring of 1 fills five empty pounds in 450 ticks, and only then the pound 0 gets its first water.
    private static CanalSteps waitForWater(int draught) {
        CanalSteps x = new CanalSteps();
        x.turnLock(0);
        for (int pound = 0; pound < 6; pound++) {
            x.setDepth(pound, 0);
        }
        x.set(2, 1);
        x.boat(1, 1, 0, draught);
        return x;
    }
}
