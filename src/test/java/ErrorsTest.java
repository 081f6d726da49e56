/** What the document tells under ERRORS: their order, and that a call that returns one changes nothing. */
public final class ErrorsTest {
    private static final int LEAST = Integer.MIN_VALUE;
    private static final int MOST = Integer.MAX_VALUE;
    private static final int REFUSALS = 30;

    public static void main(String[] args) {
        orderOfTheChecks();
        orderOfTheChecksWhenFull();
        noneIfNoErrorApplies();
        refusedCallsChangeNothing();
        noneChangesNothing();
        stopAloneChanges();
        tellingChangesNothing();
        fiveHundredAndTwelveCalls();
        Check.end();
    }

    private static void orderOfTheChecks() {
        Check.says(0, "Where several errors can apply, the order of the @return line is the order of the checks.");
        CanalSteps x = new CanalSteps();
        x.boat(1, 0, 1, 5);
        x.pass(1);
        Check.due("boat: UNKNOWN, BAD_VALUE", x.boat(0, 6, 6, 0), -1);
        Check.due("load: UNKNOWN, BAD_VALUE", x.load(1, 0), -1);
        Check.due("load: BAD_VALUE, NOT_POSSIBLE", x.load(0, 0), -2);
        Check.due("load: NOT_POSSIBLE, NONE", x.load(0, 5), -4);
        Check.due("setDepth: UNKNOWN, BAD_VALUE", x.setDepth(6, 91), -1);
        Check.due("set: UNKNOWN, BAD_VALUE", x.set(3, 99), -1);
        Check.due("boatOf: UNKNOWN, BAD_VALUE", x.boatOf(1, 10), -1);
        Check.due("lock: UNKNOWN, BAD_VALUE", x.lock(5, 8), -1);
        Check.due("pound: UNKNOWN, BAD_VALUE", x.pound(6, 4), -1);
        Check.due("stopped: BAD_VALUE, NONE", x.stopped(2), -2);
        Check.due("bestTurn: BAD_VALUE, NONE", x.bestTurn(2), -2);
    }

    private static void orderOfTheChecksWhenFull() {
        Check.says(0, "the order of the @return line is the order of the checks.");
        CanalSteps x = new CanalSteps();
        for (int i = 0; i < 16; i++) {
            x.boat(1, 0, 1, 5);
        }
        Check.due("UNKNOWN, BAD_VALUE, FULL", x.boat(0, -1, -1, 0), -1);
        Check.due("UNKNOWN, FULL: from", x.boat(1, 6, 1, 5), -1);
        Check.due("UNKNOWN, FULL: to", x.boat(1, 1, 6, 5), -1);
        Check.due("BAD_VALUE, FULL: pieces", x.boat(7, 0, 1, 5), -2);
        Check.due("BAD_VALUE, FULL: draught", x.boat(1, 0, 1, 61), -2);
        Check.due("BAD_VALUE, FULL: the same pound", x.boat(1, 3, 3, 5), -2);
        Check.due("FULL", x.boat(1, 0, 1, 5), -3);
    }

    private static void noneIfNoErrorApplies() {
        Check.says(0, "NONE is no error; it is returned only if no error applies.");
        CanalSteps x = new CanalSteps();
        x.boat(1, 0, 1, 60);
        Check.due("load: NONE", x.load(0, 60), -5);
        Check.due("load: the boat is unknown", x.load(1, 60), -1);
        Check.due("setDepth: NONE", x.setDepth(5, 40), -5);
        Check.due("setDepth: the pound is unknown", x.setDepth(6, 40), -1);
        Check.due("set: NONE", x.set(2, 4), -5);
        Check.due("set: the setting is unknown", x.set(3, 4), -1);
        Check.due("stopped: NONE", x.stopped(1), -5);
        Check.due("stopped: no such question", x.stopped(-1), -2);
        Check.due("boatOf: NONE", x.boatOf(0, 9), -5);
        Check.due("boatOf: the boat is unknown", x.boatOf(1, 9), -1);
        Check.due("lock: NONE", x.lock(4, 3), -5);
        Check.due("lock: the lock is unknown", x.lock(5, 3), -1);
        x.set(2, 0);
        Check.due("arrivesIn: NONE", x.arrivesIn(0), -5);
        Check.due("arrivesIn: the boat is unknown", x.arrivesIn(1), -1);
        Check.due("bestTurn: NONE", x.bestTurn(1), -5);
        Check.due("bestTurn: no such question", x.bestTurn(-1), -2);
    }

    /** A canal in the midst of things: a raft in two pounds, queues, a history, a snapshot, a text and a stop. */
    private static CanalSteps busy() {
        CanalSteps x = new CanalSteps();
        x.boat(1, 2, 3, 5);
        x.boat(5, 0, 3, 9);
        x.boat(1, 4, 1, 20);
        x.pass(1);
        x.keep();
        x.boat(1, 1, 5, 33);
        Check.write(x, "x0;b1>1@5");
        Check.due("a stop", x.perform(), -4);
        Check.write(x, ".7;b2>1@8");
        x.turnLock(1);
        x.pass(2);
        x.setDepth(5, 3);
        return x;
    }

    private static int refused(CanalSteps x, int which) {
        switch (which) {
            case 0: return x.boat(0, 0, 1, 5);
            case 1: return x.boat(7, 0, 1, 5);
            case 2: return x.boat(1, -1, 1, 5);
            case 3: return x.boat(1, 0, 6, 5);
            case 4: return x.boat(1, 0, 1, 0);
            case 5: return x.boat(1, 0, 1, 61);
            case 6: return x.boat(1, 2, 2, 5);
            case 7: return x.load(4, 5);
            case 8: return x.load(-1, 5);
            case 9: return x.load(1, 0);
            case 10: return x.load(1, 61);
            case 11: return x.load(0, 9);
            case 12: return x.turnLock(5);
            case 13: return x.turnLock(-1);
            case 14: return x.turnLock(4);
            case 15: return x.setDepth(6, 5);
            case 16: return x.setDepth(-1, 5);
            case 17: return x.setDepth(0, 91);
            case 18: return x.setDepth(0, -1);
            case 19: return x.set(3, 1);
            case 20: return x.set(-1, 1);
            case 21: return x.set(0, 0);
            case 22: return x.set(0, 21);
            case 23: return x.set(1, 7);
            case 24: return x.set(2, -1);
            case 25: return x.pass(0);
            case 26: return x.pass(100);
            case 27: return x.pass(LEAST) + x.pass(MOST);
            case 28: return x.ifTicks(0, 0) + x.ifTicks(501, 0) + x.bestTurn(2) + x.water(2);
            default: return x.count(14) + x.stopped(2) + x.boatOf(9, 0) + x.lock(5, 0) + x.pound(6, 0);
        }
    }

    private static void refusedCallsChangeNothing() {
        Check.says(0, "A call that returns an error or NONE changes nothing");
        CanalSteps all = busy();
        for (int which = 0; which < REFUSALS; which++) {
            CanalSteps x = busy();
            Check.due("refusal " + which, refused(x, which) < 0 ? 1 : 0, 1);
            refused(all, which);
            same("after the refusal " + which, x, busy());
        }
        same("after all of them", all, busy());
        CanalSteps fault = busy();
        fault.type(';');
        CanalSteps other = busy();
        other.type(';');
        Check.due("perform", fault.perform(), -110);
        same("after a fault", fault, other);
    }

    private static void same(String what, CanalSteps x, CanalSteps y) {
        Check.sameWords(what, Check.takenApart(x), Check.takenApart(y));
    }

    private static void noneChangesNothing() {
        Check.says(0, "A call that returns an error or NONE changes nothing");
        CanalSteps x = busy();
        CanalSteps y = busy();
        Check.due("load", x.load(1, 9), -5);
        Check.due("setDepth", x.setDepth(1, y.pound(1, 0)), -5);
        for (int which = 0; which < 3; which++) {
            Check.due("set", x.set(which, y.count(9 + which)), -5);
        }
        Check.due("lock", x.lock(4, 3), -5);
        Check.due("boatOf", x.boatOf(1, 9), -5);
        same("after all of them", x, y);
        CanalSteps bare = new CanalSteps();
        Check.due("restore", bare.restore(), -5);
        Check.due("undo", bare.undo(), -5);
        Check.due("bestTurn", bare.bestTurn(0), -5);
        Check.due("stopped", bare.stopped(0), -5);
        same("a new object", bare, new CanalSteps());
    }

    private static void stopAloneChanges() {
        Check.says(0, "(but for the latest stop of perform()).");
        CanalSteps x = busy();
        Check.due("the stop that was", x.stopped(0) * 10 + x.stopped(1), 8);
        String was = Check.picture(x);
        Check.write(x, "x3;.9;b2>3@9;x0;b2>2@9");
        Check.due("stopped", x.perform(), -4);
        Check.due("the stop", x.stopped(0) * 10 + x.stopped(1), 38);
        Check.samePicture("all else is as it was", x, was);
        CanalSteps y = busy();
        Check.due("the states are", x.count(12), y.count(12));
        while (y.undo() >= 0) {
            x.undo();
            Check.samePicture("each of them", x, Check.picture(y));
        }
        y.restore();
        x.restore();
        Check.samePicture("and the snapshot", x, Check.picture(y));
    }

    private static void tellingChangesNothing() {
        Check.says(22, "if nothing else is done.");
        CanalSteps x = busy();
        CanalSteps y = busy();
        for (int number = 0; number < 6; number++) {
            for (int what = 0; what < 14; what++) {
                x.count(what);
                x.boatOf(number, what);
                x.lock(number, what);
                x.pound(number, what);
                x.ifTicks(1 + 30 * number, what);
            }
            x.reason(number);
            x.arrivesIn(number);
            x.water(number);
            x.bestTurn(number);
            x.stopped(number);
        }
        same("after all questions", x, y);
    }

    private static void fiveHundredAndTwelveCalls() {
        Check.says(0, "An object is used for at most 512 calls after it has been made;");
        CanalSteps x = new CanalSteps();
        x.boat(6, 0, 5, 9);
        int arrived = 0;
        for (int i = 0; i < 510; i++) {
            arrived += x.pass(1);
        }
        Check.due("the 512th call", x.count(0), 510);
        Check.due("the boat arrived", arrived, 1);
    }
}
