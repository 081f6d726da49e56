/** Promises 4, 5, 6, 16, 17 and 20: locks turned by hand, depths, settings, and the water told in two ways. */
public final class WaterTest {
    private static final int LEAST = Integer.MIN_VALUE;
    private static final int MOST = Integer.MAX_VALUE;

    public static void main(String[] args) {
        turnLock();
        turnLockNeedsWater();
        turnLockOverTheWeir();
        turnLockWrong();
        setDepth();
        setDepthWrong();
        set();
        setWrong();
        settingOfAFullChamber();
        lock();
        lockWrong();
        pound();
        poundWrong();
        water();
        Check.end();
    }

    private static void turnLock() {
        CanalSteps x = new CanalSteps();
        for (int lock = 0; lock < 5; lock++) {
            Check.due("4: filled", x.turnLock(lock), 1);
            Check.due("17: taken from the pound above", x.pound(lock + 1, 0), 34);
            Check.due("16: water in the chamber", x.lock(lock, 7), 6);
        }
        Check.due("17: nothing from the pound 0", x.pound(0, 0), 40);
        Check.due("23: chambers that are high", x.count(8), 5);
        Check.due("4: emptied", x.turnLock(2), 0);
        Check.due("17: given to the pound below", x.pound(2, 0), 40);
        Check.due("17: not to that above", x.pound(3, 0), 34);
        Check.due("16: no water in the chamber", x.lock(2, 7), 0);
        Check.due("16: a filling by hand is one", x.lock(2, 6), 1);
        Check.due("23: an emptying is no filling", x.count(5), 5);
        Check.due("23: no passages by hand", x.count(4), 0);
        Check.due("4: is an act", x.undo(), 3);
        Check.due("12: high again", x.lock(2, 0), 1);
    }

    private static void turnLockNeedsWater() {
        CanalSteps x = new CanalSteps();
        x.setDepth(1, 5);
        Check.due("4: too little", x.turnLock(0), -4);
        Check.due("4: changes nothing", x.pound(1, 0) * 10 + x.count(12), 51);
        x.setDepth(1, 6);
        Check.due("4: just enough", x.turnLock(0), 1);
        Check.due("17: none is left", x.pound(1, 0), 0);
        Check.due("4: emptying needs none", x.turnLock(0), 0);
        Check.due("4: again too little", x.turnLock(0), -4);
    }

    private static void turnLockOverTheWeir() {
        CanalSteps x = new CanalSteps();
        x.set(0, 20);
        x.turnLock(1);
        x.setDepth(1, 75);
        Check.due("4: emptied", x.turnLock(1), 0);
        Check.due("17: up to 90", x.pound(1, 0), 90);
        Check.due("23: the rest is lost", x.count(6), 5);
        Check.due("17: it does not go into the pound below", x.pound(0, 0), 40);
        x.setDepth(1, 70);
        x.turnLock(1);
        x.turnLock(1);
        Check.due("17: just 90", x.pound(1, 0), 90);
        Check.due("23: nothing more is lost", x.count(6), 5);
        Check.due("20: as accounted", x.water(0) - x.water(1), 0);
    }

    private static void turnLockWrong() {
        CanalSteps x = new CanalSteps();
        int[] noLocks = {LEAST, -1, 5, MOST};
        for (int lock : noLocks) {
            Check.due("4: lock " + lock, x.turnLock(lock), -1);
        }
        Check.due("4: an error is no act", x.count(12), 0);
    }

    private static void setDepth() {
        CanalSteps x = new CanalSteps();
        Check.due("5: more", x.setDepth(3, 90), 40);
        Check.due("5: told", x.pound(3, 0), 90);
        Check.due("5: so already", x.setDepth(3, 90), -5);
        Check.due("5: less", x.setDepth(3, 0), 90);
        Check.due("5: so already, 0", x.setDepth(3, 0), -5);
        Check.due("5: previous 0", x.setDepth(3, 1), 0);
        Check.due("5: NONE is no act", x.count(12), 3);
        Check.due("5: nothing is lost by hand", x.count(6), 0);
        Check.due("5: nothing comes from the spring by hand", x.count(7), 0);
        Check.due("5: undone", x.undo() * 100 + x.pound(3, 0), 200);
    }

    private static void setDepthWrong() {
        CanalSteps x = new CanalSteps();
        int[] noPounds = {LEAST, -1, 6, MOST};
        for (int pound : noPounds) {
            Check.due("5: pound " + pound, x.setDepth(pound, 5), -1);
            Check.due("5: UNKNOWN ahead of BAD_VALUE", x.setDepth(pound, 91), -1);
        }
        int[] noDepths = {LEAST, -1, 91, MOST};
        for (int depth : noDepths) {
            Check.due("5: depth " + depth, x.setDepth(0, depth), -2);
        }
        Check.due("5: errors are no acts", x.count(12), 0);
        Check.due("5: nothing changed", x.water(0), 240);
    }

    private static void set() {
        CanalSteps x = new CanalSteps();
        int[] first = {6, 2, 4};
        int[] least = {1, 1, 0};
        int[] most = {20, 6, 20};
        for (int which = 0; which < 3; which++) {
            Check.due("6: to the least", x.set(which, least[which]), first[which]);
            Check.due("6: so already", x.set(which, least[which]), -5);
            Check.due("6: to the greatest", x.set(which, most[which]), least[which]);
            Check.due("23: told", x.count(9 + which), most[which]);
            Check.due("6: acts, but not NONE", x.count(12), Math.min(4, 2 * which + 2));
        }
        Check.due("6: undone", x.undo() * 100 + x.count(11), 300);
    }

    private static void setWrong() {
        CanalSteps x = new CanalSteps();
        int[] noSettings = {LEAST, -1, 3, MOST};
        for (int which : noSettings) {
            Check.due("6: setting " + which, x.set(which, 5), -1);
            Check.due("6: UNKNOWN ahead of BAD_VALUE", x.set(which, 21), -1);
        }
        int[][] noValues = {{LEAST, -1, 0, 21, MOST}, {LEAST, -1, 0, 7, MOST}, {LEAST, -1, 21, MOST}};
        for (int which = 0; which < 3; which++) {
            for (int value : noValues[which]) {
                Check.due("6: setting " + which + " to " + value, x.set(which, value), -2);
            }
        }
        Check.due("6: errors are no acts", x.count(12), 0);
        Check.due("6: nothing changed", x.count(9) * 100 + x.count(10) * 10 + x.count(11), 624);
    }

    private static void settingOfAFullChamber() {
        CanalSteps x = new CanalSteps();
        x.turnLock(0);
        x.set(0, 20);
        Check.due("16: what was taken", x.lock(0, 7), 6);
        x.turnLock(0);
        Check.due("4: as much is given", x.pound(0, 0), 46);
        x.turnLock(0);
        Check.due("4: the new setting is taken", x.pound(1, 0) * 100 + x.lock(0, 7), 1420);
    }

    private static void lock() {
        CanalSteps x = new CanalSteps();
        x.boat(1, 1, 2, 10);
        x.boat(1, 0, 2, 10);
        x.boat(1, 2, 0, 10);
        x.boat(1, 1, 0, 10);
        x.boat(1, 2, 1, 10);
        int[] before0 = {0, 1, 1, 1, 3, 0, 0, 0};
        int[] before1 = {0, 1, 2, 0, 2, 0, 0, 0};
        tellLock(x, 0, before0);
        tellLock(x, 1, before1);
        x.pass(1);
        int[] after0 = {1, 0, 1, -5, 3, 1, 1, 6};
        int[] after1 = {1, 1, 2, 1, 2, 1, 1, 6};
        tellLock(x, 0, after0);
        tellLock(x, 1, after1);
        x.pass(1);
        int[] later0 = {0, 0, 1, -5, 2, 2, 1, 0};
        int[] later1 = {0, 1, 1, 1, 4, 2, 1, 0};
        tellLock(x, 0, later0);
        tellLock(x, 1, later1);
        int[] never = {0, 0, 0, -5, -5, 0, 0, 0};
        tellLock(x, 4, never);
    }

    private static void tellLock(CanalSteps x, int lock, int[] due) {
        for (int what = 0; what < due.length; what++) {
            Check.due("16: lock(" + lock + ", " + what + ")", x.lock(lock, what), due[what]);
        }
    }

    private static void lockWrong() {
        CanalSteps x = new CanalSteps();
        int[] noLocks = {LEAST, -1, 5, MOST};
        for (int lock : noLocks) {
            Check.due("16: lock " + lock, x.lock(lock, 0), -1);
            Check.due("16: UNKNOWN ahead of BAD_VALUE", x.lock(lock, 8), -1);
        }
        int[] noQuestions = {LEAST, -1, 8, MOST};
        for (int what : noQuestions) {
            Check.due("16: what " + what, x.lock(4, what), -2);
        }
    }

    private static void pound() {
        CanalSteps x = new CanalSteps();
        x.boat(3, 0, 2, 30);
        x.boat(1, 1, 2, 31);
        x.boat(1, 5, 4, 20);
        tellPound(x, 0, 40, 1, 0, 30);
        tellPound(x, 1, 40, 2, 0, 31);
        tellPound(x, 2, 40, 0, 0, 0);
        tellPound(x, 4, 40, 0, 0, 0);
        tellPound(x, 5, 40, 4, 0, 20);
        x.pass(1);
        tellPound(x, 0, 40, 1, 0, 30);
        tellPound(x, 1, 34, 1, 0, 30);
        tellPound(x, 2, 34, 0, 2, 0);
        tellPound(x, 5, 38, 4, 0, 20);
        x.pass(2);
        tellPound(x, 0, 46, 0, 0, 0);
        tellPound(x, 1, 34, 1, 0, 30);
        tellPound(x, 2, 34, 0, 2, 0);
        x.load(0, 12);
        tellPound(x, 1, 34, 1, 0, 12);
        x.pass(1);
        tellPound(x, 2, 28, 1, 2, 12);
        x.pass(2);
        tellPound(x, 1, 40, 0, 0, 0);
        tellPound(x, 2, 22, 0, 3, 0);
    }

    private static void tellPound(CanalSteps x, int pound, int... due) {
        for (int what = 0; what < due.length; what++) {
            Check.due("17: pound(" + pound + ", " + what + ")", x.pound(pound, what), due[what]);
        }
    }

    private static void poundWrong() {
        CanalSteps x = new CanalSteps();
        int[] noPounds = {LEAST, -1, 6, MOST};
        for (int pound : noPounds) {
            Check.due("17: pound " + pound, x.pound(pound, 0), -1);
            Check.due("17: UNKNOWN ahead of BAD_VALUE", x.pound(pound, 4), -1);
        }
        int[] noQuestions = {LEAST, -1, 4, MOST};
        for (int what : noQuestions) {
            Check.due("17: what " + what, x.pound(5, what), -2);
        }
    }

    private static void water() {
        CanalSteps x = new CanalSteps();
        bothWays(x, 240);
        x.setDepth(0, 90);
        bothWays(x, 290);
        x.setDepth(1, 10);
        bothWays(x, 260);
        for (int lock = 0; lock < 5; lock++) {
            x.turnLock(lock);
            bothWays(x, 260);
        }
        for (int lock = 3; lock >= 0; lock--) {
            x.turnLock(lock);
            bothWays(x, 260 - (lock == 0 ? 6 : 0));
        }
        x.pass(1);
        bothWays(x, 258);
        x.undo();
        bothWays(x, 254);
        x.set(2, 20);
        x.pass(99);
        bothWays(x, 546);
        x.setDepth(3, 0);
        bothWays(x, 456);
        x.undo();
        bothWays(x, 546);
        int[] noWays = {LEAST, -1, 2, MOST};
        for (int way : noWays) {
            Check.due("20: way " + way, x.water(way), -2);
        }
    }

    private static void bothWays(CanalSteps x, int due) {
        Check.due("20: pound by pound", x.water(0), due);
        Check.due("20: by what came and went", x.water(1), due);
    }
}
