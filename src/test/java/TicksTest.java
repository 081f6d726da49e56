/** Promises 7, 21, 22 and 23: ticks, what they would bring, the best turn, and the counts. */
public final class TicksTest {
    private static final int LEAST = Integer.MIN_VALUE;
    private static final int MOST = Integer.MAX_VALUE;

    public static void main(String[] args) {
        pass();
        passWrong();
        passToTheLastTick();
        locksThatRest();
        turnedWithoutABoat();
        openSideIsLookedAtFirst();
        waterIsTakenInOrder();
        springAndWeirs();
        bestTurn();
        bestTurnOfTheLockZero();
        bestTurnOfSeveral();
        bestTurnWithinForty();
        bestTurnThatIsNotPossible();
        bestTurnWrong();
        ifTicks();
        ifTicksOfLostWater();
        ifTicksWrong();
        count();
        countOfTheLockZero();
        countWrong();
        Check.end();
    }

    private static void pass() {
        CanalSteps x = new CanalSteps();
        x.boat(1, 0, 1, 10);
        x.boat(1, 2, 3, 10);
        x.boat(1, 0, 1, 10);
        Check.due("7: two arrive", x.pass(1), 2);
        Check.due("7: is an act", x.count(12), 4);
        Check.due("7: none arrives", x.pass(1), 0);
        Check.due("7: one arrives", x.pass(99), 1);
        Check.due("23: the tick", x.count(0), 101);
        Check.due("12: undone", x.undo(), 3);
        Check.due("23: the tick then", x.count(0), 2);
        Check.due("23: arrived then", x.count(2), 2);
    }

    private static void passWrong() {
        CanalSteps x = new CanalSteps();
        int[] noTicks = {LEAST, -1, 0, 100, MOST};
        for (int ticks : noTicks) {
            Check.due("7: ticks " + ticks, x.pass(ticks), -2);
        }
        Check.due("7: an error is no act", x.count(12), 0);
        Check.due("7: no tick", x.count(0), 0);
    }

    private static void passToTheLastTick() {
        CanalSteps x = new CanalSteps();
        Check.write(x, ".99;.99;.99;.99;.99;.99;.99;.99;.99;.99;.99;.99;.99;.99;.99");
        for (int i = 0; i < 67; i++) {
            Check.due("10: 15 things", x.perform(), 15);
        }
        Check.due("10: beyond 99999", x.perform(), -4);
        Check.due("11: the sixth", x.stopped(0), 5);
        Check.due("11: is FULL", x.stopped(1), -3);
        Check.due("10: nothing is done", x.count(0), 99495);
        for (int i = 0; i < 5; i++) {
            Check.due("7: 99 ticks", x.pass(99), 0);
        }
        Check.due("7: beyond 99999", x.pass(10), -3);
        Check.due("7: BAD_VALUE ahead of FULL", x.pass(100), -2);
        Check.due("7: to 99999", x.pass(9), 0);
        Check.due("23: the tick", x.count(0), 99999);
        Check.due("7: one more", x.pass(1), -3);
        x.set(2, 0);
        x.boat(1, 0, 1, 10);
        Check.due("19: what would be can be told at the end too", x.arrivesIn(0), 1);
        Check.due("22: what would be can be told at the end too", x.ifTicks(1, 0), 1);
    }

    private static void locksThatRest() {
        CanalSteps x = new CanalSteps();
        x.turnLock(2);
        x.set(2, 0);
        x.pass(9);
        Check.due("7: a lock without boats rests", x.lock(2, 0) * 10 + x.count(5), 11);
        x.boat(1, 3, 2, 41);
        x.boat(1, 2, 3, 5);
        x.pass(9);
        Check.due("7: the lock rests while the boat at its open side is aground", x.lock(2, 0), 1);
        Check.due("7: the other boat stays", x.boatOf(1, 5), 0);
        x.load(0, 34);
        Check.due("7: then both go", x.pass(2), 2);
    }

    private static void turnedWithoutABoat() {
        CanalSteps x = new CanalSteps();
        x.boat(1, 1, 0, 60);
        Check.due("7: filled for a boat that is aground", x.pass(1) + x.lock(0, 0), 1);
        Check.due("16: a filling, no passage", x.lock(0, 6) * 10 + x.lock(0, 5), 10);
        Check.due("7: rests then", x.pass(1) + x.lock(0, 0), 1);
        CanalSteps y = new CanalSteps();
        y.setDepth(1, 5);
        y.set(2, 0);
        y.boat(1, 1, 0, 5);
        Check.due("7: not possible without water", y.pass(9) + y.lock(0, 0), 0);
        y.setDepth(1, 6);
        Check.due("7: possible", y.pass(1) + y.lock(0, 0), 1);
        Check.due("18: aground when the chamber took all", y.reason(0), 2);
    }

    private static void openSideIsLookedAtFirst() {
        CanalSteps x = new CanalSteps();
        x.boat(1, 1, 0, 5);
        x.boat(1, 0, 1, 5);
        x.boat(1, 0, 1, 5);
        Check.due("7: low, the one below goes first", x.pass(1) + x.boatOf(1, 5), 2);
        Check.due("7: high, the one above", x.pass(1) + x.boatOf(0, 5), 2);
        Check.due("7: low again", x.pass(1) + x.boatOf(2, 5), 2);
        Check.due("16: two fillings", x.lock(0, 6), 2);
    }

    private static void waterIsTakenInOrder() {
        CanalSteps x = new CanalSteps();
        x.set(2, 0);
        x.setDepth(2, 0);
        x.turnLock(2);
        x.boat(1, 1, 2, 1);
        x.boat(1, 3, 2, 1);
        x.pass(1);
        Check.due("7: the lock 1 came ahead of the water of the lock 2", x.boatOf(0, 5), 0);
        Check.due("7: the lock 2 lies aground at the pound 2", x.boatOf(1, 5), 0);
        CanalSteps y = new CanalSteps();
        y.set(2, 0);
        y.setDepth(1, 8);
        y.turnLock(1);
        y.setDepth(1, 2);
        y.boat(1, 2, 1, 2);
        y.boat(1, 0, 1, 2);
        Check.due("7: only the lock 1 can", y.pass(1) + y.boatOf(0, 5), 2);
        Check.due("17: its water", y.pound(1, 0), 8);
        Check.due("7: then the lock 0", y.pass(1) + y.pound(1, 0), 3);
    }

    private static void springAndWeirs() {
        CanalSteps x = new CanalSteps();
        x.set(2, 20);
        x.setDepth(5, 85);
        x.setDepth(4, 80);
        x.setDepth(3, 88);
        x.pass(1);
        Check.due("7: the pound 5 is full", x.pound(5, 0), 90);
        Check.due("7: the pound 4 too", x.pound(4, 0), 90);
        Check.due("7: the pound 3 too", x.pound(3, 0), 90);
        Check.due("7: the rest", x.pound(2, 0), 43);
        Check.due("23: nothing is lost", x.count(6), 0);
        Check.due("23: from the spring", x.count(7), 20);
        for (int pound = 0; pound < 6; pound++) {
            x.setDepth(pound, 90);
        }
        x.setDepth(0, 75);
        x.pass(1);
        Check.due("23: lost below", x.count(6), 5);
        Check.due("7: the pound 0 is full", x.pound(0, 0), 90);
        x.set(2, 0);
        x.pass(9);
        Check.due("23: no spring", x.count(7) * 100 + x.count(6), 4005);
    }

    private static void bestTurn() {
        CanalSteps none = new CanalSteps();
        none.boat(1, 0, 1, 45);
        Check.due("21: no turn helps", none.bestTurn(0), -5);
        Check.due("21: how many, neither", none.bestTurn(1), -5);
        for (int lock = 1; lock < 5; lock++) {
            CanalSteps x = helped(lock);
            String was = Check.picture(x);
            Check.due("21: the lock", x.bestTurn(0), lock);
            Check.due("21: with the one that arrives anyway", x.bestTurn(1), 2);
            Check.samePicture("21: changes nothing", x, was);
            Check.due("21: one without the turn", x.ifTicks(40, 0), 1);
            x.turnLock(lock);
            Check.due("21: two with it", x.ifTicks(40, 0), 2);
        }
    }

    private static void bestTurnOfTheLockZero() {
        CanalSteps x = new CanalSteps();
        x.boat(1, 2, 3, 10);
        x.pass(1);
        x.turnLock(0);
        x.boat(1, 1, 0, 60);
        x.boat(1, 0, 1, 10);
        Check.due("21: the other side is let go", x.bestTurn(0), 0);
        Check.due("21: those that have arrived before do not count", x.bestTurn(1), 1);
    }

    // The one boat arrives anyway; the other lacks the water that the chamber of the lock holds.
    private static CanalSteps helped(int lock) {
        CanalSteps x = new CanalSteps();
        x.set(2, 0);
        x.turnLock(lock);
        x.turnLock(lock - 1);
        x.setDepth(lock, 40);
        x.setDepth(lock - 1, 60);
        x.boat(1, lock, lock - 1, 10);
        x.boat(1, lock, lock - 1, 40);
        return x;
    }

    private static void bestTurnOfSeveral() {
        CanalSteps one = new CanalSteps();
        one.set(2, 0);
        one.turnLock(0);
        one.setDepth(0, 40);
        one.setDepth(1, 46);
        one.boat(1, 1, 0, 46);
        Check.due("21: what is emptied by hand is filled again ahead of the boat", one.bestTurn(0), -5);
        CanalSteps several = waitForChambers();
        Check.due("21: of the locks 1 and 3 the lowest", several.bestTurn(0), 1);
        Check.due("21: one boat", several.bestTurn(1), 1);
        several.boat(1, 3, 2, 46);
        Check.due("21: the lock 3 lets more arrive", several.bestTurn(0), 3);
        Check.due("21: two boats", several.bestTurn(1), 2);
    }

    // The chambers of the locks 1 and 3 hold the water that the boats in the pounds 1 and 3 lack.
    private static CanalSteps waitForChambers() {
        CanalSteps x = new CanalSteps();
        x.set(2, 0);
        x.set(0, 20);
        x.turnLock(1);
        x.turnLock(3);
        x.set(0, 1);
        x.turnLock(0);
        x.turnLock(2);
        x.setDepth(0, 60);
        x.setDepth(1, 40);
        x.setDepth(2, 60);
        x.setDepth(3, 40);
        x.boat(1, 1, 0, 46);
        x.boat(1, 3, 2, 46);
        return x;
    }

    private static void bestTurnWithinForty() {
        Check.due("21: in the 40th tick", lateBoat(55).bestTurn(0), 3);
        Check.due("21: one boat", lateBoat(55).bestTurn(1), 1);
        Check.due("21: in the 41st tick", lateBoat(56).bestTurn(0), -5);
        Check.due("21: in the 40th tick anyway", lateBoat(49).bestTurn(0), -5);
        Check.due("21: in the 41st tick without a turn", lateBoat(50).bestTurn(0), 3);
    }

    // The pound 3 has 10 and gets 1 each tick; the chamber of the lock 3 would give 6 at once.
    private static CanalSteps lateBoat(int draught) {
        CanalSteps x = new CanalSteps();
        x.turnLock(3);
        x.set(2, 1);
        x.setDepth(5, 90);
        x.setDepth(4, 90);
        x.setDepth(3, 10);
        x.setDepth(2, 90);
        x.boat(1, 2, 3, draught);
        return x;
    }

    private static void bestTurnThatIsNotPossible() {
        CanalSteps x = new CanalSteps();
        x.set(2, 0);
        x.setDepth(1, 5);
        x.boat(1, 1, 0, 1);
        Check.due("21: the lock 0 cannot be filled, the lock 1 neither helps", x.bestTurn(0), -5);
        x.turnLock(1);
        Check.due("21: the water of the lock 1 helps", x.bestTurn(0), 1);
        Check.due("21: one boat", x.bestTurn(1), 1);
    }

    private static void bestTurnWrong() {
        CanalSteps x = new CanalSteps();
        int[] noQuestions = {LEAST, -1, 2, MOST};
        for (int what : noQuestions) {
            Check.due("21: what " + what, x.bestTurn(what), -2);
        }
    }

    private static void ifTicks() {
        CanalSteps x = new CanalSteps();
        x.boat(3, 0, 2, 10);
        x.boat(1, 5, 4, 10);
        x.boat(1, 3, 2, 60);
        x.pass(2);
        String was = Check.picture(x);
        int[] arrive = new int[31];
        int[] passages = new int[31];
        int[] aground = new int[31];
        for (int ticks = 1; ticks <= 30; ticks++) {
            arrive[ticks] = x.ifTicks(ticks, 0);
            passages[ticks] = x.ifTicks(ticks, 1);
            aground[ticks] = x.ifTicks(ticks, 3);
        }
        Check.samePicture("22: changes nothing", x, was);
        int arrivedBefore = x.count(2);
        int passagesBefore = x.count(4);
        for (int ticks = 1; ticks <= 30; ticks++) {
            x.pass(1);
            Check.due("22: arrive in " + ticks, arrive[ticks], x.count(2) - arrivedBefore);
            Check.due("22: passages in " + ticks, passages[ticks], x.count(4) - passagesBefore);
            Check.due("22: aground after " + ticks, aground[ticks], x.count(3));
        }
        Check.due("22: one arrives in the end", arrive[30], 1);
        Check.due("22: passages in the end", passages[30], 3);
        Check.due("22: the last one stays aground", aground[30], 1);
        CanalSteps y = new CanalSteps();
        y.boat(1, 0, 1, 60);
        y.set(2, 20);
        Check.due("22: aground at 60, the spring still fills the pounds above", y.ifTicks(10, 3), 1);
        Check.due("22: afloat, but in the pound 0", y.ifTicks(500, 3), 0);
        Check.due("22: 500 are allowed", y.ifTicks(500, 0), 1);
    }

    private static void ifTicksOfLostWater() {
        CanalSteps x = new CanalSteps();
        Check.due("22: 300 are missing, 4 come each tick", x.ifTicks(75, 2), 0);
        Check.due("22: one tick more", x.ifTicks(76, 2), 4);
        Check.due("22: 500 ticks", x.ifTicks(500, 2), 1700);
        x.pass(99);
        Check.due("23: lost", x.count(6), 96);
        Check.due("22: only what is lost in them", x.ifTicks(1, 2), 4);
        Check.due("22: no act", x.count(12), 1);
    }

    private static void ifTicksWrong() {
        CanalSteps x = new CanalSteps();
        int[] noTicks = {LEAST, -1, 0, 501, MOST};
        for (int ticks : noTicks) {
            Check.due("22: ticks " + ticks, x.ifTicks(ticks, 0), -2);
        }
        int[] noQuestions = {LEAST, -1, 4, MOST};
        for (int what : noQuestions) {
            Check.due("22: what " + what, x.ifTicks(1, what), -2);
        }
    }

    private static void count() {
        CanalSteps x = new CanalSteps();
        x.boat(3, 0, 1, 10);
        x.boat(1, 2, 3, 30);
        x.boat(1, 5, 4, 50);
        x.type('b');
        x.pass(1);
        tellCounts(x, 1, 3, 1, 1, 2, 3, 0, 4, 3, 6, 2, 4, 4, 1);
        x.pass(2);
        tellCounts(x, 3, 3, 2, 1, 3, 4, 0, 12, 3, 6, 2, 4, 4, 1);
        x.setDepth(1, 0);
        Check.due("23: those that arrived do not lie aground", x.count(3), 1);
        x.setDepth(5, 90);
        x.setDepth(4, 90);
        Check.due("23: none is aground", x.count(3), 0);
        x.undo();
        Check.due("23: the next pound has too little", x.count(3), 1);
        Check.due("23: states", x.count(12), 3);
    }

    private static void tellCounts(CanalSteps x, int... due) {
        for (int what = 0; what < due.length; what++) {
            Check.due("23: count(" + what + ")", x.count(what), due[what]);
        }
    }

    private static void countOfTheLockZero() {
        CanalSteps x = new CanalSteps();
        x.boat(1, 0, 1, 10);
        x.pass(1);
        Check.due("23: passages", x.count(4), 1);
        Check.due("23: fillings", x.count(5), 1);
        Check.due("23: chambers that are high", x.count(8), 1);
        Check.due("22: passages", x.ifTicks(9, 1), 0);
    }

    private static void countWrong() {
        CanalSteps x = new CanalSteps();
        int[] noQuestions = {LEAST, -1, 14, MOST};
        for (int what : noQuestions) {
            Check.due("23: what " + what, x.count(what), -2);
        }
    }
}
