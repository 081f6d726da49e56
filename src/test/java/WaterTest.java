/** Promises 4, 5, 6, 16, 17 and 20: locks turned by hand, depths, settings, and the water told in two ways. */
public final class WaterTest {
    private static final int LEAST = Integer.MIN_VALUE;
    private static final int MOST = Integer.MAX_VALUE;

    public static void main(String[] args) {
        turnLock();
        turnLockOfEach();
        turnLockNeedsWater();
        turnLockOverTheWeir();
        turnLockBesideBoats();
        setDepth();
        setDepthOfEach();
        setDepthSoAlready();
        set();
        setWhich();
        setInItsRange();
        setSoAlready();
        settingOfAFullChamber();
        lock();
        lockQueues();
        lockCounts();
        lockWrong();
        pound();
        poundSets();
        poundDraught();
        poundWrong();
        water();
        waterWays();
        Check.end();
    }

    private static void turnLock() {
        Check.says(4, "Turns the chamber of a lock by hand, without a boat: it is filled or emptied. This is an act.");
        CanalSteps x = new CanalSteps();
        for (int lock = 0; lock < 5; lock++) {
            Check.due("filled", x.turnLock(lock), 1);
            Check.due("taken from the pound above", x.pound(lock + 1, 0), 34);
            Check.due("water in the chamber", x.lock(lock, 7), 6);
        }
        Check.due("nothing from the pound 0", x.pound(0, 0), 40);
        Check.due("chambers that are high", x.count(8), 5);
        Check.due("emptied", x.turnLock(2), 0);
        Check.due("given to the pound below", x.pound(2, 0), 40);
        Check.due("not to that above", x.pound(3, 0), 34);
        Check.due("no water in the chamber", x.lock(2, 7), 0);
        Check.due("a filling by hand is one", x.lock(2, 6), 1);
        Check.due("an emptying is no filling", x.count(5), 5);
        Check.due("no passages by hand", x.count(4), 0);
        Check.due("no tick", x.count(0), 0);
        Check.due("an act", x.undo(), 3);
        Check.due("high again", x.lock(2, 0), 1);
    }

    private static void turnLockOfEach() {
        Check.says(4, "`lock`: 0 to 4");
        CanalSteps x = new CanalSteps();
        int[] noLocks = {LEAST, -1, 5, MOST};
        for (int lock : noLocks) {
            Check.due("lock " + lock, x.turnLock(lock), -1);
        }
        Check.due("no act", x.count(12), 0);
        Check.says(4, "Returns 1 if it is high then, otherwise 0;");
        for (int lock = 0; lock < 5; lock++) {
            Check.due("low, lock " + lock, x.turnLock(lock), 1);
            Check.due("high, lock " + lock, x.turnLock(lock), 0);
            Check.due("low again, lock " + lock, x.turnLock(lock), 1);
        }
    }

    private static void turnLockNeedsWater() {
        Check.says(4, "UNKNOWN; NOT_POSSIBLE if there is too little water to fill it.");
        CanalSteps x = new CanalSteps();
        x.setDepth(1, 5);
        Check.due("too little", x.turnLock(0), -4);
        Check.due("changes nothing", x.pound(1, 0) * 10 + x.count(12), 51);
        Check.due("no filling", x.count(5) + x.lock(0, 6) + x.lock(0, 7), 0);
        x.setDepth(1, 6);
        Check.due("just enough", x.turnLock(0), 1);
        Check.due("none is left", x.pound(1, 0), 0);
        Check.due("emptying needs none", x.turnLock(0), 0);
        Check.due("again too little", x.turnLock(0), -4);
        x.set(0, 1);
        x.setDepth(1, 1);
        Check.due("1 is enough for 1", x.turnLock(0), 1);
        x.turnLock(0);
        Check.due("0 is not", x.turnLock(0), -4);
    }

    private static void turnLockOverTheWeir() {
        Check.says(4, "it is filled or emptied.");
        CanalSteps x = new CanalSteps();
        x.set(0, 20);
        x.turnLock(1);
        x.setDepth(1, 75);
        Check.due("emptied", x.turnLock(1), 0);
        Check.due("up to 90", x.pound(1, 0), 90);
        Check.due("the rest is lost", x.count(6), 5);
        Check.due("it does not go into the pound below", x.pound(0, 0), 40);
        x.setDepth(1, 70);
        x.turnLock(1);
        x.turnLock(1);
        Check.due("just 90", x.pound(1, 0), 90);
        Check.due("nothing more is lost", x.count(6), 5);
        Check.due("as accounted", x.water(0) - x.water(1), 0);
    }

    private static void turnLockBesideBoats() {
        Check.says(4, "without a boat:");
        CanalSteps x = Check.withoutSpring();
        x.boat(3, 0, 1, 5);
        x.boat(1, 1, 0, 5);
        Check.due("filled", x.turnLock(0), 1);
        Check.due("no boat went", x.boatOf(0, 4) + x.boatOf(1, 8) + x.count(2), 0);
        Check.due("the queues stay", x.lock(0, 1) * 10 + x.lock(0, 2), 11);
        x.turnLock(0);
        x.pass(1);
        x.turnLock(0);
        Check.due("a raft between stays as it is", x.boatOf(0, 4) * 10 + x.boatOf(0, 8), 21);
        Check.due("its last piece can go at once", x.pass(1), 1);
    }

    private static void setDepth() {
        Check.says(5, "Lets water into a pound, or out of it. This is an act.");
        CanalSteps x = new CanalSteps();
        Check.due("more", x.setDepth(3, 90), 40);
        Check.due("told", x.pound(3, 0), 90);
        Check.due("less", x.setDepth(3, 0), 90);
        Check.due("previous 0", x.setDepth(3, 1), 0);
        Check.due("three acts", x.count(12), 3);
        Check.due("nothing is lost by hand", x.count(6), 0);
        Check.due("nothing comes from the spring by hand", x.count(7), 0);
        Check.due("undone", x.undo() * 100 + x.pound(3, 0), 200);
    }

    private static void setDepthOfEach() {
        Check.says(5, "`pound`: 0 to 5");
        CanalSteps x = new CanalSteps();
        int[] noPounds = {LEAST, -1, 6, MOST};
        for (int pound : noPounds) {
            Check.due("pound " + pound, x.setDepth(pound, 5), -1);
            Check.due("UNKNOWN ahead of BAD_VALUE", x.setDepth(pound, 91), -1);
        }
        Check.says(5, "`depth`: 0 to 90");
        int[] noDepths = {LEAST, -1, 91, MOST};
        for (int depth : noDepths) {
            Check.due("depth " + depth, x.setDepth(0, depth), -2);
        }
        Check.due("no act", x.count(12), 0);
        Check.due("nothing changed", x.water(0), 240);
        for (int pound = 0; pound < 6; pound++) {
            Check.due("to 0", x.setDepth(pound, 0), 40);
            Check.due("to 90", x.setDepth(pound, 90), 0);
        }
    }

    private static void setDepthSoAlready() {
        Check.says(5, "Returns the previous depth; UNKNOWN; BAD_VALUE; NONE if it is so already.");
        CanalSteps x = new CanalSteps();
        Check.due("40 at first", x.setDepth(2, 40), -5);
        Check.due("to 0", x.setDepth(2, 0), 40);
        Check.due("0 already", x.setDepth(2, 0), -5);
        Check.due("to 90", x.setDepth(2, 90), 0);
        Check.due("90 already", x.setDepth(2, 90), -5);
        Check.due("NONE is no act", x.count(12), 2);
    }

    private static void set() {
        Check.says(6, "Sets a setting. This is an act.");
        CanalSteps x = new CanalSteps();
        Check.due("the water of a filling", x.set(0, 7), 6);
        Check.due("the pieces at a time", x.set(1, 3), 2);
        Check.due("the spring", x.set(2, 5), 4);
        Check.due("three acts", x.count(12), 3);
        Check.due("told", x.count(9) * 100 + x.count(10) * 10 + x.count(11), 735);
        Check.due("undone", x.undo() * 1000 + x.count(9) * 100 + x.count(10) * 10 + x.count(11), 2734);
    }

    private static void setWhich() {
        Check.says(6, "`which`: 0 to 2");
        CanalSteps x = new CanalSteps();
        int[] noSettings = {LEAST, -1, 3, MOST};
        for (int which : noSettings) {
            Check.due("setting " + which, x.set(which, 5), -1);
            Check.due("UNKNOWN ahead of BAD_VALUE", x.set(which, 21), -1);
        }
        Check.due("no act", x.count(12), 0);
    }

    private static void setInItsRange() {
        Check.says(6, "`value`: in its range");
        CanalSteps x = new CanalSteps();
        int[][] noValues = {{LEAST, -1, 0, 21, MOST}, {LEAST, -1, 0, 7, MOST}, {LEAST, -1, 21, MOST}};
        for (int which = 0; which < 3; which++) {
            for (int value : noValues[which]) {
                Check.due("setting " + which + " to " + value, x.set(which, value), -2);
            }
        }
        Check.due("no act", x.count(12), 0);
        Check.due("nothing changed", x.count(9) * 100 + x.count(10) * 10 + x.count(11), 624);
        int[] first = {6, 2, 4};
        int[] least = {1, 1, 0};
        int[] most = {20, 6, 20};
        for (int which = 0; which < 3; which++) {
            Check.due("to the least", x.set(which, least[which]), first[which]);
            Check.due("told", x.count(9 + which), least[which]);
            Check.due("to the greatest", x.set(which, most[which]), least[which]);
            Check.due("told", x.count(9 + which), most[which]);
        }
    }

    private static void setSoAlready() {
        Check.says(6, "Returns the previous one; UNKNOWN; BAD_VALUE; NONE if it is so already.");
        CanalSteps x = new CanalSteps();
        int[] first = {6, 2, 4};
        for (int which = 0; which < 3; which++) {
            Check.due("as at first", x.set(which, first[which]), -5);
            Check.due("another", x.set(which, 1), first[which]);
            Check.due("so already", x.set(which, 1), -5);
            Check.due("NONE is no act", x.count(12), which + 1);
        }
    }

    private static void settingOfAFullChamber() {
        Check.says(16, "7 for the water in its chamber (0 if it is low)");
        CanalSteps x = new CanalSteps();
        Check.due("low", x.lock(0, 7), 0);
        x.turnLock(0);
        x.set(0, 20);
        Check.due("what was taken", x.lock(0, 7), 6);
        x.turnLock(0);
        Check.due("as much is given", x.pound(0, 0), 46);
        Check.due("low again", x.lock(0, 7), 0);
        x.turnLock(0);
        Check.due("the new setting is taken", x.pound(1, 0) * 100 + x.lock(0, 7), 1420);
    }

    private static void lock() {
        Check.says(16, "`what`: 0 for whether its chamber is high (1, otherwise 0),");
        CanalSteps x = new CanalSteps();
        for (int lock = 0; lock < 5; lock++) {
            Check.due("low", x.lock(lock, 0), 0);
            x.turnLock(lock);
            Check.due("high", x.lock(lock, 0), 1);
        }
    }

    private static void lockQueues() {
        Check.says(16, "1 for the boats in the queue below, how many, 2 for those in the queue above, "
            + "3 for the first boat of the queue below, 4 for that of the queue above (NONE without one),");
        CanalSteps x = new CanalSteps();
        x.boat(1, 1, 2, 10);
        x.boat(1, 0, 2, 10);
        x.boat(1, 2, 0, 10);
        x.boat(1, 1, 0, 10);
        x.boat(1, 2, 1, 10);
        tellLock(x, 0, 0, 1, 1, 1, 3, 0, 0, 0);
        tellLock(x, 1, 0, 1, 2, 0, 2, 0, 0, 0);
        x.pass(1);
        tellLock(x, 0, 1, 0, 1, -5, 3, 1, 1, 6);
        tellLock(x, 1, 1, 1, 2, 1, 2, 1, 1, 6);
        x.pass(1);
        tellLock(x, 0, 0, 0, 1, -5, 2, 2, 1, 0);
        tellLock(x, 1, 0, 1, 1, 1, 4, 2, 1, 0);
        tellLock(x, 4, 0, 0, 0, -5, -5, 0, 0, 0);
    }

    private static void tellLock(CanalSteps x, int lock, int... due) {
        for (int what = 0; what < due.length; what++) {
            Check.due("lock(" + lock + ", " + what + ")", x.lock(lock, what), due[what]);
        }
    }

    private static void lockCounts() {
        Check.says(16, "5 for passages so far, 6 for fillings so far,");
        CanalSteps x = Check.withoutSpring();
        Check.due("none yet", x.lock(3, 5) + x.lock(3, 6), 0);
        x.turnLock(3);
        Check.due("a filling by hand", x.lock(3, 5) * 10 + x.lock(3, 6), 1);
        x.boat(3, 3, 4, 5);
        x.pass(1);
        Check.due("an emptying without a boat", x.lock(3, 5) * 10 + x.lock(3, 6), 1);
        x.pass(1);
        Check.due("two pieces up", x.lock(3, 5) * 10 + x.lock(3, 6), 12);
        x.pass(2);
        Check.due("the last piece", x.lock(3, 5) * 10 + x.lock(3, 6), 23);
        x.boat(1, 4, 3, 5);
        x.pass(1);
        Check.due("one down", x.lock(3, 5) * 10 + x.lock(3, 6), 33);
        Check.due("other locks have none", x.count(4) * 10 + x.count(5), 33);
    }

    private static void lockWrong() {
        Check.says(16, "`lock`: 0 to 4");
        CanalSteps x = new CanalSteps();
        int[] noLocks = {LEAST, -1, 5, MOST};
        int[] noQuestions = {LEAST, -1, 8, MOST};
        for (int lock : noLocks) {
            Check.due("lock " + lock, x.lock(lock, 0), -1);
            for (int what : noQuestions) {
                Check.due("UNKNOWN ahead of BAD_VALUE", x.lock(lock, what), -1);
            }
        }
        Check.says(16, "Returns the number; UNKNOWN; BAD_VALUE.");
        for (int what : noQuestions) {
            Check.due("what " + what, x.lock(0, what), -2);
            Check.due("what " + what, x.lock(4, what), -2);
        }
    }

    private static void pound() {
        Check.says(17, "`what`: 0 for its depth, 1 for boats that have pieces in it and have not arrived, as a set, "
            + "2 for those that have arrived in it, as a set,");
        CanalSteps x = new CanalSteps();
        x.boat(3, 0, 2, 30);
        x.boat(1, 1, 2, 31);
        x.boat(1, 5, 4, 20);
        tellPound(x, 0, 40, 1, 0, 30);
        tellPound(x, 1, 40, 2, 0, 31);
        tellPound(x, 2, 40, 0, 0, 0);
        tellPound(x, 4, 40, 0, 0, 0);
        tellPound(x, 5, 40, 4, 0, 20);
        x.pass(1);
        tellPound(x, 0, 40, 1, 0, 30);
        tellPound(x, 1, 34, 1, 0, 30);
        tellPound(x, 2, 34, 0, 2, 0);
        tellPound(x, 5, 38, 4, 0, 20);
        x.pass(2);
        tellPound(x, 0, 46, 0, 0, 0);
        tellPound(x, 1, 34, 1, 0, 30);
        tellPound(x, 2, 34, 0, 2, 0);
        x.load(0, 12);
        tellPound(x, 1, 34, 1, 0, 12);
        x.pass(1);
        tellPound(x, 2, 28, 1, 2, 12);
        x.pass(2);
        tellPound(x, 1, 40, 0, 0, 0);
        tellPound(x, 2, 22, 0, 3, 0);
    }

    private static void tellPound(CanalSteps x, int pound, int... due) {
        for (int what = 0; what < due.length; what++) {
            Check.due("pound(" + pound + ", " + what + ")", x.pound(pound, what), due[what]);
        }
    }

    private static void poundSets() {
        Check.says(17, "1 for boats that have pieces in it and have not arrived, as a set, "
            + "2 for those that have arrived in it, as a set,");
        CanalSteps x = Check.withoutSpring();
        x.set(0, 1);
        for (int boat = 0; boat < 16; boat++) {
            x.boat(1, 2, boat % 2 == 0 ? 3 : 1, 1);
            Check.due("all so far", x.pound(2, 1), (1 << boat + 1) - 1);
        }
        Check.due("none has arrived", x.pound(1, 2) + x.pound(3, 2), 0);
        x.pass(99);
        Check.due("those with an even number", x.pound(3, 2), 0x5555);
        Check.due("those with an odd number", x.pound(1, 2), 0xAAAA);
        Check.due("none is under way", x.pound(1, 1) + x.pound(2, 1) + x.pound(3, 1), 0);
    }

    private static void poundDraught() {
        Check.says(17, "3 for the greatest draught of boats that have pieces in it and have not arrived (0 without one)");
        CanalSteps x = Check.withoutSpring();
        Check.due("without one", x.pound(2, 3), 0);
        x.boat(1, 2, 3, 7);
        x.boat(1, 2, 1, 60);
        x.boat(1, 2, 3, 8);
        Check.due("the second", x.pound(2, 3), 60);
        x.load(1, 6);
        Check.due("the third", x.pound(2, 3), 8);
        x.pass(1);
        Check.due("that which has arrived does not count", x.pound(3, 3), 0);
        x.pass(9);
        Check.due("all have arrived", x.pound(2, 3) + x.pound(1, 3) + x.pound(3, 3), 0);
    }

    private static void poundWrong() {
        Check.says(17, "`pound`: 0 to 5");
        CanalSteps x = new CanalSteps();
        int[] noPounds = {LEAST, -1, 6, MOST};
        int[] noQuestions = {LEAST, -1, 4, MOST};
        for (int pound : noPounds) {
            Check.due("pound " + pound, x.pound(pound, 0), -1);
            for (int what : noQuestions) {
                Check.due("UNKNOWN ahead of BAD_VALUE", x.pound(pound, what), -1);
            }
        }
        Check.says(17, "Returns the number; UNKNOWN; BAD_VALUE.");
        for (int what : noQuestions) {
            Check.due("what " + what, x.pound(0, what), -2);
            Check.due("what " + what, x.pound(5, what), -2);
        }
    }

    private static void water() {
        Check.says(20, "Tells the water of the canal: all depths and what is in chambers, together.");
        CanalSteps x = new CanalSteps();
        bothWays(x, 240);
        x.setDepth(0, 90);
        bothWays(x, 290);
        x.setDepth(1, 10);
        bothWays(x, 260);
        for (int lock = 0; lock < 5; lock++) {
            x.turnLock(lock);
            bothWays(x, 260);
        }
        for (int lock = 3; lock >= 0; lock--) {
            x.turnLock(lock);
            bothWays(x, 260 - (lock == 0 ? 6 : 0));
        }
        x.pass(1);
        bothWays(x, 258);
        x.undo();
        bothWays(x, 254);
        x.set(2, 20);
        x.pass(99);
        bothWays(x, 546);
        x.setDepth(3, 0);
        bothWays(x, 456);
        x.undo();
        bothWays(x, 546);
        CanalSteps dry = new CanalSteps();
        for (int pound = 0; pound < 6; pound++) {
            dry.setDepth(pound, 0);
        }
        bothWays(dry, 0);
    }

    private static void waterWays() {
        Check.says(20, "`way`: 0: told pound by pound and lock by lock; 1: by what was at first, "
            + "what came from the spring and by hand, less what was lost and let out by hand (the same)");
        CanalSteps x = new CanalSteps();
        x.keep();
        x.setDepth(5, 90);
        x.turnLock(4);
        x.boat(1, 5, 0, 5);
        x.pass(99);
        bothWays(x, 540);
        x.restore();
        bothWays(x, 240);
        x.pass(1);
        bothWays(x, 244);
        Check.says(20, "Returns the water; BAD_VALUE.");
        int[] noWays = {LEAST, -1, 2, MOST};
        for (int way : noWays) {
            Check.due("way " + way, x.water(way), -2);
        }
    }

    private static void bothWays(CanalSteps x, int due) {
        Check.due("pound by pound", x.water(0), due);
        Check.due("by what came and went", x.water(1), due);
    }
}
