/** What the document tells under HISTORY, and the promises 12 to 14: undo, the snapshot, and what records a state. */
public final class HistoryTest {
    public static void main(String[] args) {
        atMostFour();
        oldestIsDropped();
        latestIsRestored();
        undoOfEachAct();
        noRecordOfAnError();
        noRecordOfNone();
        notActs();
        oneSnapshot();
        snapshotEmptyAtFirst();
        stateHoldsAll();
        stateHoldsNoText();
        stateHoldsNoHistory();
        stateHoldsNoSnapshot();
        stateHoldsNoStop();
        undo();
        keep();
        restore();
        restoreIsAnAct();
        restoreOfLaterThings();
        Check.end();
    }

    private static void atMostFour() {
        Check.says(0, "A history of at most 4 states is kept;");
        CanalSteps x = new CanalSteps();
        Check.due("none at first", x.count(12), 0);
        for (int i = 1; i <= 9; i++) {
            x.pass(1);
            Check.due("states", x.count(12), Math.min(4, i));
        }
        for (int left = 3; left >= 0; left--) {
            Check.due("left", x.undo(), left);
            Check.due("told", x.count(12), left);
        }
        Check.due("no fifth one", x.undo(), -5);
        Check.due("the tick", x.count(0), 5);
    }

    private static void oldestIsDropped() {
        Check.says(0, "when one more is recorded, the oldest one is dropped;");
        for (int acts = 4; acts <= 13; acts++) {
            CanalSteps x = new CanalSteps();
            for (int i = 0; i < acts; i++) {
                x.pass(1 + i);
            }
            for (int i = acts - 1; i >= acts - 4; i--) {
                x.undo();
                Check.due("the tick ahead of the act " + i, x.count(0), i * (i + 1) / 2);
            }
            Check.due("the others are dropped", x.undo(), -5);
        }
    }

    private static void latestIsRestored() {
        Check.says(0, "undo() removes and restores the latest one.");
        CanalSteps x = new CanalSteps();
        x.pass(5);
        x.boat(1, 0, 1, 5);
        x.setDepth(4, 77);
        Check.due("the depth", x.undo() * 100 + x.pound(4, 0), 240);
        Check.due("the boat stays", x.count(1), 1);
        x.pass(2);
        Check.due("a new state in its place", x.count(12), 3);
        Check.due("the ticks", x.undo() * 10 + x.count(0), 25);
        Check.due("the boat", x.undo() * 10 + x.count(1), 10);
        Check.due("the ticks", x.undo() * 10 + x.count(0), 0);
    }

    private static void undoOfEachAct() {
        Check.says(0, "Each call of a method that is described as an act, and returns no error and not NONE, "
            + "records the state that was before it.");
        CanalSteps x = new CanalSteps();
        x.boat(2, 0, 3, 9);
        x.keep();
        Check.write(x, "x1;.3");
        for (int act = 0; act < 8; act++) {
            int states = x.count(12);
            String was = Check.picture(x);
            doAct(x, act);
            Check.due("something changed by the act " + act, Check.picture(x).equals(was) ? 1 : 0, 0);
            Check.due("one state more", x.count(12), states + 1);
            Check.due("the states that are left", x.undo(), states);
            Check.samePicture("the act " + act + " undone", x, was);
            if (act == 6) {
                x.pass(1);
            }
        }
    }

    private static void doAct(CanalSteps x, int act) {
        switch (act) {
            case 0: Check.due("2", x.boat(1, 3, 2, 9), 1); break;
            case 1: Check.due("3", x.load(0, 8), 9); break;
            case 2: Check.due("4", x.turnLock(3), 1); break;
            case 3: Check.due("5", x.setDepth(3, 60), 40); break;
            case 4: Check.due("6", x.set(0, 7), 6); break;
            case 5: Check.due("7", x.pass(9), 1); break;
            case 6: Check.due("10", x.perform(), 2); break;
            default: Check.due("14", x.restore(), 0); break;
        }
    }

    private static void noRecordOfAnError() {
        Check.says(0, "and returns no error and not NONE,");
        CanalSteps x = new CanalSteps();
        x.setDepth(1, 5);
        x.boat(1, 3, 4, 5);
        x.pass(1);
        Check.write(x, "x0");
        Check.due("boat", x.boat(0, 0, 1, 5), -2);
        Check.due("load", x.load(0, 6), -4);
        Check.due("turnLock", x.turnLock(0), -4);
        Check.due("setDepth", x.setDepth(0, 91), -2);
        Check.due("set", x.set(3, 0), -1);
        Check.due("pass", x.pass(100), -2);
        Check.due("perform, a stop", x.perform(), -4);
        x.clearText();
        Check.due("perform, a fault", x.perform(), -100);
        Check.due("states", x.count(12), 3);
        Check.due("the latest is that ahead of the tick", x.undo() * 10 + x.count(0), 20);
    }

    private static void noRecordOfNone() {
        Check.says(0, "and returns no error and not NONE,");
        CanalSteps x = new CanalSteps();
        x.boat(1, 0, 1, 5);
        Check.due("load", x.load(0, 5), -5);
        Check.due("setDepth", x.setDepth(0, 40), -5);
        Check.due("set 0", x.set(0, 6), -5);
        Check.due("set 1", x.set(1, 2), -5);
        Check.due("set 2", x.set(2, 4), -5);
        Check.due("restore", x.restore(), -5);
        Check.due("states", x.count(12), 1);
        Check.due("the latest is that ahead of the boat", x.undo() + x.count(1), 0);
    }

    private static void notActs() {
        Check.says(0, "Each call of a method that is described as an act,");
        CanalSteps x = new CanalSteps();
        x.boat(1, 0, 1, 5);
        x.boatOf(0, 0);
        x.lock(0, 0);
        x.pound(0, 0);
        x.reason(0);
        x.arrivesIn(0);
        x.water(0);
        x.bestTurn(0);
        x.ifTicks(9, 0);
        x.count(0);
        x.type('a');
        x.clearText();
        x.stopped(0);
        x.keep();
        Check.due("none of them records", x.count(12), 1);
        Check.due("undone", x.undo(), 0);
        Check.due("undo is none either", x.undo(), -5);
    }

    private static void oneSnapshot() {
        Check.says(0, "There is one snapshot,");
        CanalSteps x = new CanalSteps();
        x.pass(1);
        x.keep();
        x.pass(1);
        x.keep();
        x.pass(1);
        Check.due("the second one", x.restore(), 2);
        Check.due("the first one is gone", x.restore(), 2);
    }

    private static void snapshotEmptyAtFirst() {
        Check.says(0, "empty at first.");
        CanalSteps x = new CanalSteps();
        Check.due("none", x.restore(), -5);
        x.pass(9);
        Check.due("none yet", x.restore(), -5);
        Check.due("nothing changed", x.count(0) * 10 + x.count(12), 91);
        x.undo();
        Check.due("what is undone is none", x.restore(), -5);
        x.keep();
        Check.due("one", x.restore(), 0);
    }

    // A state in which all that can be told is other than at first.
    private static void changeAll(CanalSteps x) {
        x.set(0, 20);
        x.set(1, 1);
        x.set(2, 20);
        for (int pound = 0; pound < 6; pound++) {
            x.setDepth(pound, 89 - pound);
        }
        for (int lock = 0; lock < 5; lock += 2) {
            x.turnLock(lock);
        }
        x.boat(3, 0, 4, 9);
        x.boat(1, 4, 0, 11);
        x.boat(2, 2, 3, 13);
        x.boat(1, 2, 1, 60);
        x.pass(5);
        x.boat(1, 0, 5, 60);
        x.load(0, 12);
    }

    private static void stateHoldsAll() {
        Check.says(0, "A state is everything but");
        CanalSteps x = new CanalSteps();
        changeAll(x);
        String was = Check.picture(x);
        x.keep();
        x.restore();
        Check.samePicture("restored at once", x, was);
        Check.write(x, "x0;x2;b1>5@3;.50;r6:5>0@9;.9");
        x.perform();
        x.undo();
        Check.samePicture("undone", x, was);
        x.perform();
        String later = Check.picture(x);
        x.restore();
        Check.samePicture("restored", x, was);
        Check.due("what comes then is the same", x.perform(), 6);
        Check.samePicture("as it was", x, later);
        x.undo();
        x.undo();
        Check.samePicture("ahead of restore", x, later);
    }

    private static void stateHoldsNoText() {
        Check.says(0, "A state is everything but the text,");
        CanalSteps x = new CanalSteps();
        Check.write(x, ".3");
        x.keep();
        x.pass(1);
        x.type('9');
        x.undo();
        Check.due("undo leaves the text", x.count(13), 3);
        Check.due("restore leaves it", x.restore() * 10 + x.count(13), 3);
        Check.due("39 ticks", x.perform() + x.count(0), 40);
    }

    private static void stateHoldsNoHistory() {
        Check.says(0, "the history,");
        CanalSteps x = new CanalSteps();
        x.pass(1);
        x.keep();
        x.pass(1);
        x.pass(1);
        Check.due("restore leaves the history, and adds one", x.restore() * 10 + x.count(12), 14);
        Check.due("one is removed", x.undo() * 10 + x.count(0), 33);
        Check.due("another", x.undo() * 10 + x.count(0), 22);
        Check.due("another", x.undo() * 10 + x.count(0), 11);
        Check.due("the last one", x.undo() * 10 + x.count(0), 0);
    }

    private static void stateHoldsNoSnapshot() {
        Check.says(0, "the snapshot");
        CanalSteps x = new CanalSteps();
        x.pass(2);
        x.keep();
        x.undo();
        Check.due("undone", x.count(0), 0);
        Check.due("the snapshot is there still", x.restore(), 2);
        x.pass(1);
        x.keep();
        x.undo();
        x.undo();
        Check.due("the second one too", x.restore(), 3);
        for (int i = 0; i < 6; i++) {
            x.pass(1);
        }
        Check.due("and when its states are dropped", x.restore(), 3);
    }

    private static void stateHoldsNoStop() {
        Check.says(0, "and the latest stop.");
        CanalSteps x = new CanalSteps();
        x.pass(1);
        x.keep();
        Check.write(x, "x0;b1>1@5");
        x.perform();
        x.undo();
        Check.due("undo leaves it", x.stopped(0) * 10 + x.stopped(1), 8);
        x.restore();
        Check.due("restore leaves it", x.stopped(0) * 10 + x.stopped(1), 8);
    }

    private static void undo() {
        Check.says(12, "Removes and restores the latest state of the history.");
        CanalSteps x = new CanalSteps();
        x.boat(1, 0, 1, 5);
        String was = Check.picture(x);
        x.turnLock(3);
        x.undo();
        Check.samePicture("restored", x, was);
        Check.due("removed", x.count(12), 1);
        Check.says(12, "Returns the number of states that are left; NONE if the history is empty.");
        CanalSteps y = new CanalSteps();
        Check.due("empty at first", y.undo(), -5);
        y.pass(1);
        y.pass(1);
        Check.due("one is left", y.undo(), 1);
        Check.due("none is left", y.undo(), 0);
        Check.due("empty", y.undo(), -5);
        Check.due("nothing changed", y.count(0) + y.count(12), 0);
        y.pass(1);
        Check.due("recorded again", y.undo(), 0);
    }

    private static void keep() {
        Check.says(13, "Takes a snapshot of the state, in place of the one that was.");
        CanalSteps x = new CanalSteps();
        x.keep();
        x.boat(3, 0, 2, 9);
        x.pass(3);
        String kept = Check.picture(x);
        x.keep();
        Check.samePicture("keep changes nothing", x, kept);
        x.pass(9);
        x.restore();
        Check.samePicture("the second one", x, kept);
        Check.says(13, "Returns the tick.");
        Check.due("the tick", x.keep(), 3);
        x.pass(99);
        Check.due("the tick", x.keep(), 102);
        Check.due("at first", new CanalSteps().keep(), 0);
    }

    private static void restore() {
        Check.says(14, "Restores the state of the snapshot, which stays.");
        CanalSteps x = new CanalSteps();
        x.boat(3, 0, 2, 9);
        x.boat(1, 0, 2, 9);
        x.pass(3);
        String kept = Check.picture(x);
        x.keep();
        x.pass(20);
        x.boat(1, 4, 5, 60);
        x.setDepth(5, 1);
        x.restore();
        Check.samePicture("restored", x, kept);
        x.pass(1);
        x.restore();
        Check.samePicture("it stays", x, kept);
        Check.says(14, "Returns the tick then; NONE if there is no snapshot.");
        Check.due("the tick", x.restore(), 3);
        x.pass(4);
        Check.due("the tick then", x.restore(), 3);
        Check.due("none", new CanalSteps().restore(), -5);
        CanalSteps first = new CanalSteps();
        first.keep();
        first.pass(9);
        Check.due("0 is a tick", first.restore(), 0);
    }

    private static void restoreIsAnAct() {
        Check.says(14, "This is an act.");
        CanalSteps x = new CanalSteps();
        x.keep();
        x.pass(7);
        Check.due("to the tick 0", x.restore(), 0);
        Check.due("states", x.count(12), 2);
        Check.due("undone", x.undo(), 1);
        Check.due("the tick", x.count(0), 7);
        x.undo();
        Check.due("to what is so already, an act too", x.restore() + x.count(12), 1);
    }

    private static void restoreOfLaterThings() {
        Check.says(14, "Restores the state of the snapshot,");
        CanalSteps x = new CanalSteps();
        x.keep();
        changeAll(x);
        String later = Check.picture(x);
        x.restore();
        Check.samePicture("as at first", x, Check.picture(new CanalSteps()));
        x.undo();
        Check.samePicture("and back", x, later);
    }
}
