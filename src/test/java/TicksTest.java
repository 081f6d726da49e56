/** Promises 7, 21, 22 and 23: ticks that pass, the best turn, what ticks would bring, and the counts. */
public final class TicksTest {
    private static final int LEAST = Integer.MIN_VALUE;
    private static final int MOST = Integer.MAX_VALUE;

    public static void main(String[] args) {
        pass();
        passIsAnAct();
        passOfOneToNinetyNine();
        passToTheLastTick();
        performToTheLastTick();
        bestTurn();
        bestTurnOfTheLockZero();
        bestTurnOfSeveral();
        bestTurnWithinForty();
        bestTurnThatIsNotPossible();
        bestTurnOfNone();
        bestTurnWhat();
        ifTicks();
        ifTicksOfOneToFiveHundred();
        ifTicksOfLostWater();
        ifTicksOfThoseAground();
        ifTicksAtTheLastTick();
        ifTicksWhat();
        count();
        countAground();
        countOfTheLockZero();
        countOfStatesAndSigns();
        countWhat();
        Check.end();
    }

    private static void pass() {
        Check.says(7, "Returns how many boats arrive in them;");
        CanalSteps x = new CanalSteps();
        x.boat(1, 0, 1, 10);
        x.boat(1, 2, 3, 10);
        x.boat(1, 0, 1, 10);
        Check.due("two arrive", x.pass(1), 2);
        Check.due("none arrives", x.pass(1), 0);
        Check.due("one arrives", x.pass(99), 1);
        Check.due("none is left", x.pass(99), 0);
        CanalSteps y = new CanalSteps();
        for (int i = 0; i < 16; i++) {
            y.boat(1, 2, 3, 5);
        }
        Check.due("all 16", y.pass(99), 16);
        Check.due("the queue is empty then", y.lock(2, 1) + y.lock(2, 3), -5);
    }

    private static void passIsAnAct() {
        Check.says(7, "Lets ticks pass. This is an act.");
        CanalSteps x = new CanalSteps();
        x.pass(1);
        x.boat(1, 0, 1, 10);
        String was = Check.picture(x);
        Check.due("it is done", x.pass(99), 1);
        Check.due("the tick", x.count(0), 100);
        Check.due("states", x.count(12), 3);
        Check.due("undone", x.undo(), 2);
        Check.samePicture("as before", x, was);
        Check.due("an act again", x.pass(1) * 10 + x.count(12), 13);
        Check.due("an act too if no boat arrives", x.pass(1) * 10 + x.count(12), 4);
    }

    private static void passOfOneToNinetyNine() {
        Check.says(7, "`ticks`: 1 to 99");
        CanalSteps x = new CanalSteps();
        int[] noTicks = {LEAST, -99, -1, 0, 100, 101, 500, MOST};
        for (int ticks : noTicks) {
            Check.due("ticks " + ticks, x.pass(ticks), -2);
        }
        Check.due("no act", x.count(12), 0);
        Check.due("no tick", x.count(0), 0);
        Check.due("1", x.pass(1) + x.count(0), 1);
        Check.due("99", x.pass(99) + x.count(0), 100);
    }

    /** A canal at the tick 99990, after 72 calls of perform() and pass() and 60 of type(). */
    private static CanalSteps nearTheLastTick() {
        CanalSteps x = new CanalSteps();
        Check.write(x, ".99;.99;.99;.99;.99;.99;.99;.99;.99;.99;.99;.99;.99;.99;.99");
        for (int i = 0; i < 67; i++) {
            Check.due("15 things", x.perform(), 15);
        }
        for (int i = 0; i < 5; i++) {
            Check.due("99 ticks", x.pass(99), 0);
        }
        Check.due("the tick", x.count(0), 99990);
        return x;
    }

    private static void passToTheLastTick() {
        Check.says(7, "BAD_VALUE; FULL if the tick would be beyond 99999.");
        CanalSteps x = nearTheLastTick();
        Check.due("to 100089", x.pass(99), -3);
        Check.due("to 100000", x.pass(10), -3);
        Check.due("FULL is no act", x.undo(), 3);
        x.pass(99);
        Check.due("BAD_VALUE ahead of FULL", x.pass(100), -2);
        Check.due("to 99999", x.pass(9), 0);
        Check.due("the tick", x.count(0), 99999);
        Check.due("one more", x.pass(1), -3);
        Check.due("0 ticks", x.pass(0), -2);
        Check.due("the tick stays", x.count(0), 99999);
        x.undo();
        Check.due("after undo there is room again", x.pass(9) + x.count(0), 99999);
    }

    private static void performToTheLastTick() {
        Check.says(7, "FULL if the tick would be beyond 99999.");
        CanalSteps x = nearTheLastTick();
        Check.write(x, "x0;.9;x1;.1");
        String was = Check.picture(x);
        Check.due("9 ticks and 1", x.perform(), -4);
        Check.due("the fourth thing", x.stopped(0), 3);
        Check.due("is FULL", x.stopped(1), -3);
        Check.samePicture("nothing is done", x, was);
        Check.write(x, "x0;.9;x1");
        Check.due("9 ticks", x.perform(), 3);
        Check.due("the tick", x.count(0), 99999);
    }

    private static void bestTurn() {
        Check.says(21, "Finds the lock whose turning by hand now would let the most boats arrive within 40 ticks;");
        for (int lock = 1; lock < 5; lock++) {
            CanalSteps x = helped(lock);
            String was = Check.picture(x);
            Check.due("the lock", x.bestTurn(0), lock);
            Check.due("with the one that arrives anyway", x.bestTurn(1), 2);
            Check.samePicture("changes nothing", x, was);
            Check.due("one without the turn", x.ifTicks(40, 0), 1);
            x.turnLock(lock);
            Check.due("two with it", x.ifTicks(40, 0), 2);
        }
    }

    private static void bestTurnOfTheLockZero() {
        Check.says(21, "`what`: 0 for the lock, 1 for how many");
        CanalSteps x = new CanalSteps();
        x.boat(1, 2, 3, 10);
        x.pass(1);
        x.turnLock(0);
        x.boat(1, 1, 0, 60);
        x.boat(1, 0, 1, 10);
        Check.due("the other side is let go", x.bestTurn(0), 0);
        Check.due("those that have arrived before do not count", x.bestTurn(1), 1);
    }

    // The one boat arrives anyway; the other lacks the water that the chamber of the lock holds.
    private static CanalSteps helped(int lock) {
        CanalSteps x = Check.withoutSpring();
        x.turnLock(lock);
        x.turnLock(lock - 1);
        x.setDepth(lock, 40);
        x.setDepth(lock - 1, 60);
        x.boat(1, lock, lock - 1, 10);
        x.boat(1, lock, lock - 1, 40);
        return x;
    }

    private static void bestTurnOfSeveral() {
        Check.says(21, "of several the lowest.");
        CanalSteps several = waitForChambers();
        Check.due("of the locks 1 and 3 the lowest", several.bestTurn(0), 1);
        Check.due("one boat", several.bestTurn(1), 1);
        several.boat(1, 3, 2, 46);
        Check.due("the lock 3 lets more arrive", several.bestTurn(0), 3);
        Check.due("two boats", several.bestTurn(1), 2);
        several.boat(1, 1, 0, 46);
        Check.due("as many again, the lowest again", several.bestTurn(0), 1);
        Check.due("two boats", several.bestTurn(1), 2);
    }

    // The chambers of the locks 1 and 3 hold the water that the boats in the pounds 1 and 3 lack.
    private static CanalSteps waitForChambers() {
        CanalSteps x = Check.withoutSpring();
        x.set(0, 20);
        x.turnLock(1);
        x.turnLock(3);
        x.set(0, 1);
        x.turnLock(0);
        x.turnLock(2);
        x.setDepth(0, 60);
        x.setDepth(1, 40);
        x.setDepth(2, 60);
        x.setDepth(3, 40);
        x.boat(1, 1, 0, 46);
        x.boat(1, 3, 2, 46);
        return x;
    }

    private static void bestTurnWithinForty() {
        Check.says(21, "the most boats arrive within 40 ticks;");
        Check.due("in the 40th tick", lateBoat(55).bestTurn(0), 3);
        Check.due("one boat", lateBoat(55).bestTurn(1), 1);
        Check.due("in the 41st tick", lateBoat(56).bestTurn(0), -5);
        Check.due("how many, neither", lateBoat(56).bestTurn(1), -5);
        Check.due("in the 40th tick anyway", lateBoat(49).bestTurn(0), -5);
        Check.due("in the 41st tick without a turn", lateBoat(50).bestTurn(0), 3);
        Check.due("so it is", lateBoat(49).arrivesIn(0) * 100 + lateBoat(50).arrivesIn(0), 4041);
    }

    // The pound 3 has 10 and gets 1 each tick; the chamber of the lock 3 would give 6 at once.
    private static CanalSteps lateBoat(int draught) {
        CanalSteps x = new CanalSteps();
        x.turnLock(3);
        x.set(2, 1);
        x.setDepth(5, 90);
        x.setDepth(4, 90);
        x.setDepth(3, 10);
        x.setDepth(2, 90);
        x.boat(1, 2, 3, draught);
        return x;
    }

    private static void bestTurnThatIsNotPossible() {
        Check.says(21, "Finds the lock whose turning by hand now");
        CanalSteps x = Check.withoutSpring();
        x.setDepth(1, 5);
        x.boat(1, 1, 0, 1);
        Check.due("the lock 0 cannot be filled, the lock 1 neither helps", x.bestTurn(0), -5);
        x.turnLock(1);
        Check.due("the water of the lock 1 helps", x.bestTurn(0), 1);
        Check.due("one boat", x.bestTurn(1), 1);
        CanalSteps dry = Check.withoutSpring();
        for (int pound = 0; pound < 6; pound++) {
            dry.setDepth(pound, 0);
        }
        Check.due("no lock can be turned", dry.bestTurn(0), -5);
    }

    private static void bestTurnOfNone() {
        Check.says(21, "Returns the number; BAD_VALUE; NONE if with none more would arrive than without.");
        Check.due("no boats", new CanalSteps().bestTurn(0), -5);
        CanalSteps none = new CanalSteps();
        none.boat(1, 0, 1, 45);
        Check.due("no turn helps", none.bestTurn(0), -5);
        Check.due("how many, neither", none.bestTurn(1), -5);
        CanalSteps all = new CanalSteps();
        all.boat(1, 0, 1, 5);
        Check.due("it arrives with each and without", all.ifTicks(40, 0), 1);
        Check.due("no more than without", all.bestTurn(0), -5);
        Check.due("how many, neither", all.bestTurn(1), -5);
        CanalSteps one = Check.withoutSpring();
        one.turnLock(0);
        one.setDepth(0, 40);
        one.setDepth(1, 46);
        one.boat(1, 1, 0, 46);
        Check.due("what is emptied by hand is filled again ahead of the boat", one.bestTurn(0), -5);
    }

    private static void bestTurnWhat() {
        Check.says(21, "`what`: 0 for the lock, 1 for how many");
        CanalSteps x = helped(2);
        int[] noQuestions = {LEAST, -1, 2, MOST};
        for (int what : noQuestions) {
            Check.due("what " + what, x.bestTurn(what), -2);
            Check.due("BAD_VALUE ahead of NONE", new CanalSteps().bestTurn(what), -2);
        }
    }

    private static void ifTicks() {
        Check.says(22, "Tells what ticks would bring, if nothing else is done.");
        CanalSteps x = new CanalSteps();
        x.boat(3, 0, 2, 10);
        x.boat(1, 5, 4, 10);
        x.boat(1, 3, 2, 60);
        x.pass(2);
        String was = Check.picture(x);
        int[][] told = new int[4][31];
        for (int what = 0; what < 4; what++) {
            for (int ticks = 1; ticks <= 30; ticks++) {
                told[what][ticks] = x.ifTicks(ticks, what);
            }
        }
        Check.samePicture("changes nothing", x, was);
        Check.due("is no act", x.count(12), 4);
        int arrivedBefore = x.count(2);
        int passagesBefore = x.count(4);
        Check.says(22, "`what`: 0 for boats that arrive in them, 1 for passages in them, "
            + "2 for water that is lost in them, 3 for boats that lie aground then");
        for (int ticks = 1; ticks <= 30; ticks++) {
            x.pass(1);
            Check.due("arrive in " + ticks, told[0][ticks], x.count(2) - arrivedBefore);
            Check.due("passages in " + ticks, told[1][ticks], x.count(4) - passagesBefore);
            Check.due("lost in " + ticks, told[2][ticks], x.count(6));
            Check.due("aground after " + ticks, told[3][ticks], x.count(3));
        }
        Check.due("one arrives in the end", told[0][30], 1);
        Check.due("passages in the end", told[1][30], 3);
        Check.due("the last one stays aground", told[3][30], 1);
    }

    private static void ifTicksOfOneToFiveHundred() {
        Check.says(22, "`ticks`: 1 to 500");
        CanalSteps x = new CanalSteps();
        int[] noTicks = {LEAST, -1, 0, 501, 1000, MOST};
        for (int ticks : noTicks) {
            for (int what = 0; what < 4; what++) {
                Check.due("ticks " + ticks, x.ifTicks(ticks, what), -2);
            }
        }
        x.boat(1, 0, 2, 5);
        Check.due("1 tick", x.ifTicks(1, 0) * 10 + x.ifTicks(1, 1), 12);
        Check.due("500 ticks", x.ifTicks(500, 0) * 10 + x.ifTicks(500, 1), 12);
    }

    private static void ifTicksOfLostWater() {
        Check.says(22, "2 for water that is lost in them,");
        CanalSteps x = new CanalSteps();
        Check.due("300 are missing, 4 come each tick", x.ifTicks(75, 2), 0);
        Check.due("one tick more", x.ifTicks(76, 2), 4);
        Check.due("500 ticks", x.ifTicks(500, 2), 1700);
        x.pass(99);
        Check.due("lost", x.count(6), 96);
        Check.due("only what is lost in them", x.ifTicks(1, 2), 4);
        Check.due("no act", x.count(12), 1);
    }

    private static void ifTicksOfThoseAground() {
        Check.says(22, "3 for boats that lie aground then");
        CanalSteps x = new CanalSteps();
        x.boat(1, 0, 1, 60);
        x.set(2, 20);
        Check.due("at 60, the spring still fills the pounds above", x.ifTicks(10, 3), 1);
        Check.due("afloat then, in the pound 0 too", x.ifTicks(500, 3), 0);
        CanalSteps y = new CanalSteps();
        y.boat(1, 0, 1, 10);
        y.boat(1, 1, 2, 35);
        Check.due("none is aground now", y.count(3), 0);
        Check.due("one is then", y.ifTicks(1, 3), 1);
    }

    private static void ifTicksAtTheLastTick() {
        Check.says(22, "Tells what ticks would bring, if nothing else is done.");
        CanalSteps x = nearTheLastTick();
        x.pass(9);
        x.set(2, 0);
        x.boat(1, 0, 1, 10);
        Check.due("no tick can pass", x.pass(1), -3);
        Check.due("what would be can be told", x.ifTicks(500, 0), 1);
        Check.due("and when it would arrive", x.arrivesIn(0), 1);
    }

    private static void ifTicksWhat() {
        Check.says(22, "Returns the number; BAD_VALUE.");
        CanalSteps x = new CanalSteps();
        int[] noQuestions = {LEAST, -1, 4, MOST};
        for (int what : noQuestions) {
            Check.due("what " + what, x.ifTicks(1, what), -2);
            Check.due("what " + what + ", and no ticks", x.ifTicks(0, what), -2);
        }
    }

    private static void count() {
        Check.says(23, "`what`: 0 for the tick, 1 for boats so far, 2 for those that have arrived,");
        Check.says(23, "4 for passages so far, 5 for fillings so far, 6 for water that was lost so far, "
            + "7 for that from the spring so far, 8 for chambers that are high, 9 to 11 for the settings,");
        CanalSteps x = new CanalSteps();
        x.boat(3, 0, 1, 10);
        x.boat(1, 2, 3, 30);
        x.boat(1, 5, 4, 50);
        x.type('b');
        x.pass(1);
        tellCounts(x, 1, 3, 1, 1, 2, 3, 0, 4, 3, 6, 2, 4, 4, 1);
        x.pass(2);
        tellCounts(x, 3, 3, 2, 1, 3, 4, 0, 12, 3, 6, 2, 4, 4, 1);
    }

    private static void tellCounts(CanalSteps x, int... due) {
        for (int what = 0; what < due.length; what++) {
            Check.due("count(" + what + ")", x.count(what), due[what]);
        }
    }

    private static void countAground() {
        Check.says(23, "3 for those that lie aground now (of those that have not arrived),");
        CanalSteps x = new CanalSteps();
        x.boat(1, 2, 3, 30);
        x.boat(1, 5, 4, 41);
        Check.due("one by 1", x.count(3), 1);
        x.pass(1);
        x.setDepth(3, 0);
        x.setDepth(2, 0);
        Check.due("that which arrived does not", x.count(2) * 10 + x.count(3), 11);
        x.setDepth(5, 90);
        x.setDepth(4, 90);
        Check.due("none is aground", x.count(3), 0);
        x.undo();
        Check.due("the next pound has too little", x.count(3), 1);
    }

    private static void countOfTheLockZero() {
        Check.says(23, "4 for passages so far, 5 for fillings so far,");
        CanalSteps x = new CanalSteps();
        x.boat(1, 0, 1, 10);
        x.pass(1);
        Check.due("passages", x.count(4), 1);
        Check.due("fillings", x.count(5), 1);
        Check.due("chambers that are high", x.count(8), 1);
        Check.due("no more passages", x.ifTicks(9, 1), 0);
    }

    private static void countOfStatesAndSigns() {
        Check.says(23, "12 for the states in the history, 13 for the length of the text");
        CanalSteps x = new CanalSteps();
        for (int i = 0; i < 6; i++) {
            Check.due("states", x.count(12), Math.min(i, 4));
            Check.due("signs", x.count(13), i);
            x.pass(1);
            x.type('.');
        }
        x.undo();
        Check.due("one state less", x.count(12), 3);
        x.clearText();
        Check.due("no sign", x.count(13), 0);
    }

    private static void countWhat() {
        Check.says(23, "Returns the number; BAD_VALUE.");
        CanalSteps x = new CanalSteps();
        int[] noQuestions = {LEAST, -1, 14, MOST};
        for (int what : noQuestions) {
            Check.due("what " + what, x.count(what), -2);
        }
    }
}
