/** What the document tells under A TICK, sentence by sentence, each with its edges. */
public final class OneTickTest {
    public static void main(String[] args) {
        tickAtFirst();
        locksByTheirNumbers();
        openSideFirst();
        otherSideIfEmpty();
        restsIfBothAreEmpty();
        firstGoesIfAfloat();
        firstGoesIfTheChamberCanBeFilled();
        firstAlone();
        chamberIsTurnedWithTheBoat();
        asManyPiecesAsTheSetting();
        settingChangesUnderWay();
        restsIfTheBoatCannotGo();
        turnedWithoutABoat();
        arrivesInItsGoal();
        nextLockInThisTick();
        nextLockInTheNextTick();
        spring();
        weirs();
        lostBelow();
        oneMore();
        Check.end();
    }

    private static void tickAtFirst() {
        Check.says(0, "The tick is 0 at first.");
        Check.due("the tick", new CanalSteps().count(0), 0);
        Check.due("kept", new CanalSteps().keep(), 0);
    }

    // The pound 1 has water for one of the locks 0 and 1; what one takes or gives, the other one finds.
    private static void locksByTheirNumbers() {
        Check.says(0, "The locks, by their numbers:");
        CanalSteps x = Check.withoutSpring();
        x.setDepth(1, 8);
        x.turnLock(1);
        x.setDepth(1, 2);
        x.boat(1, 2, 1, 2);
        x.boat(1, 0, 1, 2);
        Check.due("the lock 0 lacks the water that the lock 1 gives later", x.reason(1), 5);
        Check.due("only the lock 1 can", x.pass(1) + x.boatOf(0, 5), 2);
        Check.due("its water", x.pound(1, 0), 8);
        Check.due("then the lock 0", x.pass(1) + x.pound(1, 0), 3);
        CanalSteps y = Check.withoutSpring();
        y.setDepth(2, 0);
        y.turnLock(2);
        y.boat(1, 1, 2, 1);
        y.boat(1, 3, 2, 1);
        y.pass(1);
        Check.due("the lock 1 came ahead of the lock 2", y.boatOf(0, 5), 0);
        CanalSteps z = Check.withoutSpring();
        z.boat(1, 0, 1, 10);
        z.boat(1, 1, 2, 35);
        Check.due("the lock 0 took water ahead of the lock 1", z.pass(1) + z.boatOf(1, 5), 1);
    }

    private static void openSideFirst() {
        Check.says(0, "a lock looks at the queue on the side to which its chamber is open,");
        for (int k = 0; k < 5; k++) {
            CanalSteps x = Check.withoutSpring();
            x.boat(1, k + 1, k, 5);
            x.boat(1, k, k + 1, 5);
            x.boat(1, k, k + 1, 5);
            Check.due("low, the one below goes first", x.pass(1) + x.boatOf(1, 5), 2);
            Check.due("high, the one above", x.pass(1) + x.boatOf(0, 5), 2);
            Check.due("low again", x.pass(1) + x.boatOf(2, 5), 2);
            Check.due("two fillings", x.lock(k, 6), 2);
        }
    }

    private static void otherSideIfEmpty() {
        Check.says(0, "and if that is empty, at the other one.");
        for (int k = 0; k < 5; k++) {
            CanalSteps low = Check.withoutSpring();
            low.boat(1, k + 1, k, 5);
            Check.due("filled for the boat above", low.pass(1) * 10 + low.lock(k, 0), 1);
            Check.due("which goes then", low.pass(1) * 10 + low.lock(k, 0), 10);
            CanalSteps high = Check.withoutSpring();
            high.turnLock(k);
            high.boat(1, k, k + 1, 5);
            Check.due("emptied for the boat below", high.pass(1) * 10 + high.lock(k, 0), 0);
            Check.due("which goes then", high.pass(1) * 10 + high.lock(k, 0), 11);
        }
    }

    private static void restsIfBothAreEmpty() {
        Check.says(0, "If both are empty, it rests.");
        CanalSteps low = Check.withoutSpring();
        low.pass(9);
        Check.due("none is filled", low.count(5) * 10 + low.count(8), 0);
        CanalSteps high = Check.withoutSpring();
        for (int lock = 0; lock < 5; lock++) {
            high.turnLock(lock);
        }
        high.pass(9);
        Check.due("none is emptied", high.count(5) * 10 + high.count(8), 55);
        high.boat(1, 2, 3, 1);
        high.pass(9);
        Check.due("the lock 2 was turned twice, and rests then", high.lock(2, 6) * 10 + high.lock(2, 0), 21);
        Check.due("the other ones rested", high.count(5) * 10 + high.count(8), 65);
    }

    // The lock 2 is open to a boat that goes up from the pound 2 (1), or down from the pound 3 (0); both have 40.
    private static CanalSteps openForTheWay(int up) {
        CanalSteps x = Check.withoutSpring();
        if (up == 0) {
            x.turnLock(2);
            x.setDepth(3, 40);
        }
        return x;
    }

    private static void firstGoesIfAfloat() {
        Check.says(0, "If the chamber is open to the side of that queue, the first boat of it goes, "
            + "if it does not lie aground,");
        for (int up = 0; up <= 1; up++) {
            CanalSteps x = openForTheWay(up);
            x.boat(1, 3 - up, 2 + up, 41);
            Check.due("aground by one", x.pass(9), 0);
            Check.due("the chamber is as it was", x.lock(2, 0), 1 - up);
            x.load(0, 40);
            Check.due("afloat", x.pass(1), 1);
            Check.due("the chamber was turned", x.lock(2, 0), up);
        }
    }

    private static void firstGoesIfTheChamberCanBeFilled() {
        Check.says(0, "and the chamber can be filled, if that is needed:");
        CanalSteps up = Check.withoutSpring();
        up.boat(1, 1, 2, 1);
        up.setDepth(2, 5);
        Check.due("it lacks 1", up.pass(9), 0);
        Check.due("nothing is taken", up.pound(2, 0), 5);
        up.setDepth(2, 6);
        Check.due("it has as much", up.pass(1), 1);
        CanalSteps down = Check.withoutSpring();
        down.turnLock(1);
        down.set(0, 20);
        down.setDepth(2, 1);
        down.boat(1, 2, 1, 1);
        Check.due("no filling is needed to go down", down.pass(1), 1);
        Check.due("nothing is taken", down.pound(2, 0), 1);
    }

    private static void firstAlone() {
        Check.says(0, "the first boat of it goes,");
        CanalSteps x = Check.withoutSpring();
        x.boat(1, 2, 3, 60);
        x.boat(1, 2, 3, 1);
        Check.due("none goes past one that is aground", x.pass(9), 0);
        Check.due("the order stays", x.boatOf(0, 7) * 10 + x.boatOf(1, 7), 1);
        x.load(0, 1);
        Check.due("the first one", x.pass(1) * 10 + x.boatOf(0, 5), 11);
        Check.due("a second one needs the chamber again", x.pass(1), 0);
        Check.due("it goes then", x.pass(1) * 10 + x.boatOf(1, 5), 11);
        CanalSteps y = Check.withoutSpring();
        y.set(1, 6);
        y.boat(1, 2, 3, 1);
        y.boat(1, 2, 3, 1);
        Check.due("one boat at a time, though six pieces have room", y.pass(1), 1);
    }

    private static void chamberIsTurnedWithTheBoat() {
        Check.says(0, "the chamber is filled or emptied,");
        for (int k = 0; k < 5; k++) {
            CanalSteps x = Check.withoutSpring();
            x.boat(1, k, k + 1, 1);
            x.boat(1, k + 1, k, 1);
            Check.due("up", x.pass(1), 1);
            Check.due("filled", x.lock(k, 7) * 100 + x.pound(k + 1, 0), 634);
            Check.due("down", x.pass(1), 1);
            Check.due("emptied", x.lock(k, 7) * 100 + x.pound(k, 0), 46);
            Check.due("two passages, one filling", x.lock(k, 5) * 10 + x.lock(k, 6), 21);
        }
    }

    private static void asManyPiecesAsTheSetting() {
        Check.says(0, "and as many of its pieces as the setting 1 tells (1 to 6; 2 at first), "
            + "at most all that are left, are in the next pound.");
        for (int setting = 1; setting <= 6; setting++) {
            for (int pieces = 1; pieces <= 6; pieces++) {
                CanalSteps x = Check.withoutSpring();
                x.set(1, setting);
                x.boat(pieces, 0, 1, 1);
                int through = 0;
                int passages = 0;
                while (pieces - through > setting) {
                    Check.due("not all yet", x.pass(1), 0);
                    through += setting;
                    passages++;
                    Check.due("pieces that are through", x.boatOf(0, 4), through);
                    Check.due("passages", x.boatOf(0, 8), passages);
                    Check.due("the chamber is turned back", x.pass(1) + x.boatOf(0, 4), through);
                }
                Check.due("all that are left", x.pass(1), 1);
                Check.due("in the goal", x.boatOf(0, 2) * 10 + x.boatOf(0, 8), 11 + passages);
            }
        }
        CanalSteps x = new CanalSteps();
        Check.due("2 at first", x.count(10), 2);
        Check.due("0 is not allowed", x.set(1, 0), -2);
        Check.due("7 is not allowed", x.set(1, 7), -2);
    }

    private static void settingChangesUnderWay() {
        Check.says(0, "at most all that are left,");
        CanalSteps x = Check.withoutSpring();
        x.set(1, 5);
        x.boat(6, 1, 0, 1);
        x.pass(2);
        Check.due("five are through", x.boatOf(0, 4), 5);
        Check.due("the last one, where five have room", x.pass(2), 1);
        CanalSteps y = Check.withoutSpring();
        y.set(1, 1);
        y.boat(6, 0, 2, 1);
        y.pass(1);
        y.set(1, 3);
        y.pass(2);
        Check.due("one and three", y.boatOf(0, 4), 4);
        y.set(1, 2);
        y.pass(2);
        Check.due("the last two, and two of them through the next lock", y.boatOf(0, 2) * 10 + y.boatOf(0, 4), 12);
    }

    private static void restsIfTheBoatCannotGo() {
        Check.says(0, "If the boat cannot go, the lock rests.");
        for (int up = 0; up <= 1; up++) {
            CanalSteps x = openForTheWay(up);
            x.boat(1, 3 - up, 2 + up, 41);
            x.boat(1, 2 + up, 3 - up, 5);
            Check.due("the other one is not let through", x.pass(9), 0);
            Check.due("the chamber rests", x.lock(2, 0), 1 - up);
            Check.due("the reason of the other one", x.reason(1), 4);
            x.load(0, 30);
            Check.due("then both go", x.pass(2), 2);
        }
        CanalSteps y = Check.withoutSpring();
        y.setDepth(3, 5);
        y.boat(1, 2, 3, 5);
        y.boat(1, 3, 2, 5);
        Check.due("it rests without water too", y.pass(9) + y.lock(2, 0), 0);
    }

    private static void turnedWithoutABoat() {
        Check.says(0, "If the chamber is open to the other side, it is filled or emptied without a boat, "
            + "if that is possible.");
        CanalSteps x = Check.withoutSpring();
        x.boat(1, 1, 0, 60);
        Check.due("filled for a boat that is aground", x.pass(1) + x.lock(0, 0), 1);
        Check.due("a filling, no passage", x.lock(0, 6) * 10 + x.lock(0, 5), 10);
        Check.due("rests then", x.pass(1) + x.lock(0, 0), 1);
        CanalSteps y = Check.withoutSpring();
        y.setDepth(1, 5);
        y.boat(1, 1, 0, 5);
        Check.due("not possible with one too little", y.pass(9) + y.lock(0, 0), 0);
        y.setDepth(1, 6);
        Check.due("possible with just as much", y.pass(1) + y.lock(0, 0), 1);
        Check.due("aground when the chamber took all", y.reason(0), 2);
        CanalSteps z = Check.withoutSpring();
        z.turnLock(0);
        z.setDepth(0, 90);
        z.setDepth(1, 0);
        z.boat(1, 0, 1, 60);
        Check.due("emptying is possible always", z.pass(1) + z.lock(0, 0), 0);
        Check.due("over the weir", z.count(6), 6);
        Check.due("the boat did not go in that tick", z.boatOf(0, 8), 0);
    }

    private static void arrivesInItsGoal() {
        Check.says(0, "A boat whose last piece is through has arrived, if that pound is its goal;");
        CanalSteps x = Check.withoutSpring();
        x.boat(2, 0, 1, 1);
        x.boat(3, 2, 1, 1);
        Check.due("both pieces at once", x.pass(1), 1);
        Check.due("it has arrived", x.boatOf(0, 5) * 10 + x.boatOf(0, 2), 11);
        Check.due("two of three pieces", x.pass(1) + x.boatOf(1, 4), 2);
        Check.due("not arrived yet", x.boatOf(1, 5), 0);
        Check.due("the last one", x.pass(2), 1);
        Check.due("it has arrived", x.boatOf(1, 5) * 10 + x.boatOf(1, 2), 11);
    }

    private static void nextLockInThisTick() {
        Check.says(0, "otherwise it joins the next queue "
            + "(the lock there looks at it in this tick, too, if its number is greater).");
        for (int to = 1; to <= 5; to++) {
            CanalSteps x = Check.withoutSpring();
            x.boat(1, 0, to, 1);
            Check.due("all the way up in one tick", x.pass(1), 1);
            Check.due("passages", x.boatOf(0, 8), to);
            Check.due("the tick", x.boatOf(0, 9), 0);
        }
        CanalSteps x = Check.withoutSpring();
        x.turnLock(2);
        x.boat(1, 0, 5, 1);
        x.pass(1);
        Check.due("the lock 2 is turned for it in this tick", x.boatOf(0, 2) * 10 + x.lock(2, 0), 20);
        Check.due("and lets it through in the next one", x.pass(1), 1);
    }

    private static void nextLockInTheNextTick() {
        Check.says(0, "(the lock there looks at it in this tick, too, if its number is greater).");
        CanalSteps x = Check.withoutSpring();
        for (int lock = 0; lock < 5; lock++) {
            x.turnLock(lock);
        }
        x.boat(1, 5, 0, 1);
        for (int pound = 4; pound >= 0; pound--) {
            Check.due("down, one lock each tick", x.pass(1), pound == 0 ? 1 : 0);
            Check.due("the pound", x.boatOf(0, 2), pound);
        }
        CanalSteps y = Check.withoutSpring();
        y.turnLock(4);
        y.boat(1, 5, 3, 1);
        y.pass(1);
        Check.due("the lock 3 did not see it in this tick", y.boatOf(0, 2) * 10 + y.lock(3, 0), 40);
        y.pass(1);
        Check.due("it is filled in the next one", y.boatOf(0, 2) * 10 + y.lock(3, 0), 41);
    }

    private static void spring() {
        Check.says(0, "The depth of the pound 5 is more by the setting 2 (0 to 20; 4 at first),");
        int[] amounts = {4, 0, 1, 20};
        for (int amount : amounts) {
            CanalSteps x = new CanalSteps();
            x.set(2, amount);
            x.pass(1);
            Check.due("the pound 5", x.pound(5, 0), 40 + amount);
            Check.due("from the spring", x.count(7), amount);
            Check.due("all the water", x.water(0), 240 + amount);
            x.pass(1);
            Check.due("once more", x.pound(5, 0) * 100 + x.count(7), 4000 + 202 * amount);
        }
        CanalSteps x = new CanalSteps();
        Check.due("4 at first", x.count(11), 4);
        Check.due("-1 is not allowed", x.set(2, -1), -2);
        Check.due("21 is not allowed", x.set(2, 21), -2);
        CanalSteps late = new CanalSteps();
        late.boat(1, 5, 4, 41);
        late.setDepth(4, 90);
        late.turnLock(4);
        late.setDepth(5, 40);
        Check.due("it comes behind the locks", late.pass(1), 0);
        Check.due("then the boat floats", late.pass(1), 1);
    }

    private static void weirs() {
        Check.says(0, "but what would be above 90 goes over its weir into the pound 4, and so on down;");
        int[][] rows = {{85, 89, 40}, {86, 90, 40}, {87, 90, 41}, {90, 90, 44}};
        for (int[] row : rows) {
            CanalSteps x = new CanalSteps();
            x.setDepth(5, row[0]);
            x.pass(1);
            Check.due("the pound 5 of " + row[0], x.pound(5, 0), row[1]);
            Check.due("the pound 4", x.pound(4, 0), row[2]);
            Check.due("the pound 3", x.pound(3, 0), 40);
        }
        for (int last = 4; last >= 0; last--) {
            CanalSteps x = new CanalSteps();
            for (int pound = 5; pound > last; pound--) {
                x.setDepth(pound, 90);
            }
            x.pass(1);
            for (int pound = 0; pound < 6; pound++) {
                int due = pound > last ? 90 : pound == last ? 44 : 40;
                Check.due("pound " + pound + ", full down to " + last, x.pound(pound, 0), due);
            }
            Check.due("nothing is lost", x.count(6), 0);
        }
        CanalSteps x = new CanalSteps();
        x.set(2, 20);
        x.setDepth(5, 85);
        x.setDepth(4, 80);
        x.setDepth(3, 88);
        x.pass(1);
        Check.due("some stays in each", x.pound(5, 0) + x.pound(4, 0) + x.pound(3, 0), 270);
        Check.due("the rest", x.pound(2, 0), 43);
        Check.due("no more than that", x.pound(1, 0), 40);
    }

    private static void lostBelow() {
        Check.says(0, "what would be above 90 in the pound 0 is lost.");
        int[][] rows = {{85, 89, 0}, {86, 90, 0}, {87, 90, 1}, {90, 90, 4}};
        for (int[] row : rows) {
            CanalSteps x = new CanalSteps();
            for (int pound = 1; pound < 6; pound++) {
                x.setDepth(pound, 90);
            }
            x.setDepth(0, row[0]);
            x.pass(1);
            Check.due("the pound 0 of " + row[0], x.pound(0, 0), row[1]);
            Check.due("lost", x.count(6), row[2]);
            Check.due("accounted", x.water(1), 450 + row[1]);
        }
    }

    private static void oneMore() {
        Check.says(0, "The tick is 1 more.");
        CanalSteps x = new CanalSteps();
        for (int tick = 1; tick <= 5; tick++) {
            x.pass(1);
            Check.due("the tick", x.count(0), tick);
        }
        x.boat(1, 0, 1, 1);
        x.pass(1);
        Check.due("what arrives in a tick arrives ahead of that", x.boatOf(0, 9) * 10 + x.count(0), 56);
    }
}
