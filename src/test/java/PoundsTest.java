/** What the document tells under POUNDS, LOCKS, sentence by sentence, each with its edges. */
public final class PoundsTest {
    // By hand, by a boat that goes through, and for a boat that waits on the other side.
    private static final int BY_HAND = 0;
    private static final int WITH_A_BOAT = 1;
    private static final int WITHOUT_A_BOAT = 2;

    public static void main(String[] args) {
        sixPounds();
        fiveLocks();
        lockIsBetweenTwoPounds();
        chamberIsLowOrHigh();
        fillingTakesTheSetting();
        fillingNeedsAsMuch();
        emptyingGivesWhatWasTaken();
        emptyingNeedsNoWater();
        emptyingOverTheWeir();
        Check.end();
    }

    private static void sixPounds() {
        Check.says(0, "There are 6 pounds, 0 (the lowest) to 5, each with a depth (0 to 90; 40 at first)");
        CanalSteps x = new CanalSteps();
        for (int pound = 0; pound < 6; pound++) {
            Check.due("at first, pound " + pound, x.pound(pound, 0), 40);
            Check.due("0 is a depth", x.setDepth(pound, 0), 40);
            Check.due("told", x.pound(pound, 0), 0);
            Check.due("90 is a depth", x.setDepth(pound, 90), 0);
            Check.due("told", x.pound(pound, 0), 90);
            Check.due("91 is none", x.setDepth(pound, 91), -2);
            Check.due("-1 is none", x.setDepth(pound, -1), -2);
            Check.due("still 90", x.pound(pound, 0), 90);
        }
        Check.due("no pound 6", x.pound(6, 0), -1);
        Check.due("no pound -1", x.pound(-1, 0), -1);
        x.setDepth(0, 89);
        x.boat(1, 5, 0, 5);
        x.pass(99);
        Check.due("0 is the lowest: the water comes down to it", x.pound(0, 0), 90);
    }

    private static void fiveLocks() {
        Check.says(0, "and 5 locks;");
        CanalSteps x = new CanalSteps();
        for (int lock = 0; lock < 5; lock++) {
            Check.due("lock " + lock, x.turnLock(lock), 1);
        }
        Check.due("no lock 5", x.turnLock(5), -1);
        Check.due("no lock -1", x.turnLock(-1), -1);
        Check.due("told: no lock 5", x.lock(5, 0), -1);
        Check.due("told: no lock -1", x.lock(-1, 0), -1);
    }

    private static void lockIsBetweenTwoPounds() {
        Check.says(0, "the lock k is between the pounds k and k + 1.");
        for (int k = 0; k < 5; k++) {
            CanalSteps x = new CanalSteps();
            x.boat(1, k, k + 1, 10);
            x.boat(1, k + 1, k, 10);
            Check.due("the lock of the boat up", x.boatOf(0, 6), k);
            Check.due("the lock of the boat down", x.boatOf(1, 6), k);
            Check.due("the boat below", x.lock(k, 3), 0);
            Check.due("the boat above", x.lock(k, 4), 1);
            Check.due("up", x.pass(1), 1);
            Check.due("down", x.pass(1), 1);
            for (int lock = 0; lock < 5; lock++) {
                Check.due("passages of the lock " + lock, x.lock(lock, 5), lock == k ? 2 : 0);
            }
        }
    }

    private static void chamberIsLowOrHigh() {
        Check.says(0, "The chamber of a lock is low (at first) or high: "
            + "low, it is open to the pound k alone, high to the pound k + 1 alone.");
        for (int k = 0; k < 5; k++) {
            CanalSteps x = new CanalSteps();
            x.boat(1, k, k + 1, 1);
            x.boat(1, k + 1, k, 1);
            Check.due("low at first", x.lock(k, 0), 0);
            Check.due("low, the boat below goes", x.reason(0), 0);
            Check.due("low, that above cannot", x.reason(1), 4);
            x.turnLock(k);
            Check.due("high", x.lock(k, 0), 1);
            Check.due("high, the boat below cannot", x.reason(0), 4);
            Check.due("high, that above goes", x.reason(1), 0);
            x.turnLock(k);
            Check.due("low again", x.lock(k, 0) * 10 + x.reason(0), 0);
        }
    }

    // A canal without spring, with a boat (or none) for which the next tick fills the chamber of the lock.
    private static CanalSteps readyToFill(int lock, int way) {
        CanalSteps x = Check.withoutSpring();
        if (way != BY_HAND) {
            boolean up = way == WITH_A_BOAT;
            x.boat(1, up ? lock : lock + 1, up ? lock + 1 : lock, 1);
        }
        return x;
    }

    private static void fill(CanalSteps x, int lock, int way) {
        if (way == BY_HAND) {
            Check.due("filled by hand", x.turnLock(lock), 1);
        } else {
            Check.due("filled in a tick", x.pass(1), way == WITH_A_BOAT ? 1 : 0);
        }
    }

    private static void fillingTakesTheSetting() {
        Check.says(0, "To fill a chamber (it becomes high) takes as much from the depth of the pound above "
            + "as the setting 0 tells (1 to 20; 6 at first);");
        int[] amounts = {6, 1, 20};
        for (int amount : amounts) {
            for (int way = BY_HAND; way <= WITHOUT_A_BOAT; way++) {
                for (int lock = 0; lock < 5; lock++) {
                    CanalSteps x = readyToFill(lock, way);
                    x.set(0, amount);
                    fill(x, lock, way);
                    Check.due("it is high", x.lock(lock, 0), 1);
                    Check.due("water in the chamber", x.lock(lock, 7), amount);
                    for (int pound = 0; pound < 6; pound++) {
                        Check.due("pound " + pound, x.pound(pound, 0), pound == lock + 1 ? 40 - amount : 40);
                    }
                }
            }
        }
        CanalSteps x = new CanalSteps();
        Check.due("6 at first", x.count(9), 6);
        Check.due("0 is not allowed", x.set(0, 0), -2);
        Check.due("21 is not allowed", x.set(0, 21), -2);
    }

    private static void fillingNeedsAsMuch() {
        Check.says(0, "it is possible if the pound above has as much.");
        int[] amounts = {6, 1, 20};
        for (int amount : amounts) {
            for (int lock = 0; lock < 5; lock++) {
                CanalSteps hand = readyToFill(lock, BY_HAND);
                hand.set(0, amount);
                hand.setDepth(lock + 1, amount - 1);
                Check.due("by hand, one too little", hand.turnLock(lock), -4);
                hand.setDepth(lock + 1, amount);
                Check.due("by hand, just as much", hand.turnLock(lock) * 100 + hand.pound(lock + 1, 0), 100);
                CanalSteps other = readyToFill(lock, WITHOUT_A_BOAT);
                other.set(0, amount);
                other.setDepth(lock + 1, amount - 1);
                Check.due("without a boat, one too little", other.pass(9) + other.lock(lock, 0), 0);
                other.setDepth(lock + 1, amount);
                Check.due("without a boat, just as much", other.pass(1) + other.lock(lock, 0), 1);
            }
        }
        CanalSteps x = readyToFill(2, WITH_A_BOAT);
        x.setDepth(3, 5);
        Check.due("with a boat, one too little", x.pass(9) + x.lock(2, 0), 0);
        x.setDepth(3, 6);
        Check.due("with a boat, just as much", x.pass(1) * 10 + x.lock(2, 0), 11);
        Check.due("all of it is taken", x.pound(3, 0), 0);
    }

    private static void emptyingGivesWhatWasTaken() {
        Check.says(0, "To empty it (it becomes low) gives as much to the pound below as was taken when it was filled;");
        int[][] settings = {{6, 6}, {1, 20}, {20, 1}};
        for (int[] pair : settings) {
            for (int way = BY_HAND; way <= WITHOUT_A_BOAT; way++) {
                for (int lock = 0; lock < 5; lock++) {
                    CanalSteps x = Check.withoutSpring();
                    x.set(0, pair[0]);
                    x.turnLock(lock);
                    x.set(0, pair[1]);
                    empty(x, lock, way);
                    Check.due("it is low", x.lock(lock, 0), 0);
                    Check.due("no water in the chamber", x.lock(lock, 7), 0);
                    Check.due("the pound below", x.pound(lock, 0), 40 + pair[0]);
                    Check.due("the pound above", x.pound(lock + 1, 0), 40 - pair[0]);
                    Check.due("nothing is lost", x.count(6), 0);
                }
            }
        }
    }

    private static void empty(CanalSteps x, int lock, int way) {
        if (way == BY_HAND) {
            Check.due("emptied by hand", x.turnLock(lock), 0);
            return;
        }
        boolean down = way == WITH_A_BOAT;
        x.boat(1, down ? lock + 1 : lock, down ? lock : lock + 1, 1);
        Check.due("emptied in a tick", x.pass(1), down ? 1 : 0);
    }

    private static void emptyingNeedsNoWater() {
        Check.says(0, "To empty it (it becomes low)");
        for (int way = BY_HAND; way <= WITHOUT_A_BOAT; way++) {
            CanalSteps x = Check.withoutSpring();
            x.turnLock(3);
            x.set(0, 20);
            x.setDepth(4, 1);
            x.setDepth(3, 1);
            empty(x, 3, way);
            Check.due("it is low", x.lock(3, 0), 0);
            Check.due("nothing is taken above", x.pound(4, 0), 1);
        }
        CanalSteps x = Check.withoutSpring();
        x.turnLock(3);
        x.setDepth(4, 0);
        x.setDepth(3, 0);
        Check.due("by hand between two empty pounds", x.turnLock(3) * 10 + x.pound(3, 0), 6);
    }

    private static void emptyingOverTheWeir() {
        Check.says(0, "what would be above 90 there is lost over a weir.");
        int[][] depths = {{83, 89, 0}, {84, 90, 0}, {85, 90, 1}, {90, 90, 6}};
        for (int[] row : depths) {
            for (int way = BY_HAND; way <= WITHOUT_A_BOAT; way++) {
                for (int lock = 0; lock < 5; lock++) {
                    CanalSteps x = Check.withoutSpring();
                    x.turnLock(lock);
                    x.setDepth(lock, row[0]);
                    empty(x, lock, way);
                    Check.due("the pound below", x.pound(lock, 0), row[1]);
                    Check.due("lost", x.count(6), row[2]);
                    Check.due("no pound further down gets it", lock == 0 ? 40 : x.pound(lock - 1, 0), 40);
                    Check.due("it is gone", x.water(0), 240 + row[0] - 40 - row[2]);
                    Check.due("accounted", x.water(1), x.water(0));
                }
            }
        }
    }
}
