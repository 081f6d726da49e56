/** Promises 12 to 14: undo, the snapshot, and which calls record a state. */
public final class HistoryTest {
    public static void main(String[] args) {
        undoOfEachAct();
        atMostFour();
        notActs();
        keepAndRestore();
        restoreIsAnAct();
        snapshotStays();
        settingsBelongToAState();
        Check.end();
    }

    private static void undoOfEachAct() {
        CanalSteps x = new CanalSteps();
        x.boat(2, 0, 3, 9);
        x.keep();
        Check.write(x, "x1;.3");
        for (int act = 0; act < 8; act++) {
            int states = x.count(12);
            String was = Check.picture(x);
            doAct(x, act);
            Check.due("12: something changed by the act " + act, Check.picture(x).equals(was) ? 1 : 0, 0);
            Check.due("12: one state more", x.count(12), states + 1);
            Check.due("12: the states that are left", x.undo(), states);
            Check.samePicture("12: the act " + act + " undone", x, was);
            if (act == 6) {
                x.pass(1);
            }
        }
    }

    private static void doAct(CanalSteps x, int act) {
        switch (act) {
            case 0: Check.due("2", x.boat(1, 3, 2, 9), 1); break;
            case 1: Check.due("3", x.load(0, 8), 9); break;
            case 2: Check.due("4", x.turnLock(3), 1); break;
            case 3: Check.due("5", x.setDepth(3, 60), 40); break;
            case 4: Check.due("6", x.set(0, 7), 6); break;
            case 5: Check.due("7", x.pass(9), 1); break;
            case 6: Check.due("10", x.perform(), 2); break;
            default: Check.due("14", x.restore(), 0); break;
        }
    }

    private static void atMostFour() {
        CanalSteps x = new CanalSteps();
        for (int i = 1; i <= 9; i++) {
            x.pass(1);
            Check.due("23: states", x.count(12), Math.min(4, i));
        }
        for (int left = 3; left >= 0; left--) {
            Check.due("12: left", x.undo(), left);
            Check.due("12: the tick", x.count(0), 5 + left);
        }
        Check.due("12: the history is empty", x.undo(), -5);
        Check.due("12: the oldest were dropped", x.count(0), 5);
        x.pass(2);
        x.pass(3);
        Check.due("12: recorded again", x.count(12), 2);
        Check.due("12: and undone", x.undo() * 100 + x.count(0), 107);
    }

    private static void notActs() {
        CanalSteps x = new CanalSteps();
        x.boat(1, 0, 1, 5);
        x.boatOf(0, 0);
        x.lock(0, 0);
        x.pound(0, 0);
        x.reason(0);
        x.arrivesIn(0);
        x.water(0);
        x.bestTurn(0);
        x.ifTicks(9, 0);
        x.count(0);
        x.type('a');
        x.perform();
        x.clearText();
        x.stopped(0);
        x.keep();
        x.load(0, 5);
        x.setDepth(0, 40);
        x.set(0, 6);
        Check.due("12: none of them records", x.count(12), 1);
        Check.due("12: undone", x.undo(), 0);
        Check.due("12: undo is none either", x.undo(), -5);
    }

    private static void keepAndRestore() {
        CanalSteps x = new CanalSteps();
        Check.due("14: no snapshot", x.restore(), -5);
        x.boat(3, 0, 2, 9);
        x.boat(1, 0, 2, 9);
        x.pass(3);
        String kept = Check.picture(x);
        Check.due("13: the tick", x.keep(), 3);
        x.pass(20);
        x.boat(1, 4, 5, 60);
        x.setDepth(5, 1);
        Check.due("14: the tick then", x.restore(), 3);
        Check.samePicture("14: restored", x, kept);
        x.pass(1);
        Check.due("14: again", x.restore(), 3);
        Check.samePicture("14: the snapshot stays", x, kept);
        x.pass(5);
        Check.due("13: another in its place", x.keep(), 8);
        x.pass(1);
        Check.due("14: that one", x.restore(), 8);
    }

    private static void restoreIsAnAct() {
        CanalSteps x = new CanalSteps();
        x.keep();
        x.pass(7);
        x.type('x');
        Check.due("14: to the tick 0", x.restore(), 0);
        Check.due("23: states, and the length of the text", x.count(12) * 10 + x.count(13), 21);
        Check.due("12: undone", x.undo(), 1);
        Check.due("23: the tick", x.count(0), 7);
        x.undo();
        Check.due("14: to what is so already, an act too", x.restore() + x.count(12), 1);
    }

    private static void snapshotStays() {
        CanalSteps x = new CanalSteps();
        x.pass(2);
        x.keep();
        x.undo();
        Check.due("23: undone", x.count(0), 0);
        Check.due("14: the snapshot is in no state", x.restore(), 2);
        for (int i = 0; i < 6; i++) {
            x.pass(1);
        }
        Check.due("14: nor in the history", x.restore(), 2);
    }

    private static void settingsBelongToAState() {
        CanalSteps x = new CanalSteps();
        x.keep();
        x.set(0, 20);
        x.set(1, 6);
        x.set(2, 0);
        x.restore();
        Check.due("14: the settings too", x.count(9) * 100 + x.count(10) * 10 + x.count(11), 624);
        x.undo();
        Check.due("12: and back", x.count(9) * 100 + x.count(10) * 10 + x.count(11), 2060);
    }
}
