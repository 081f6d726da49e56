/** Promises 8 to 11: the text, its faults, the traffic that it tells, and the stops. */
public final class TextsTest {
    public static void main(String[] args) {
        type();
        typeAnything();
        faults();
        faultChangesNothing();
        allowed();
        perform();
        performAnother();
        performStays();
        stopsOfEachKind();
        stopIsTheLatest();
        longest();
        Check.end();
    }

    private static void type() {
        CanalSteps x = new CanalSteps();
        for (int i = 1; i <= 60; i++) {
            Check.due("8: the length", x.type('x'), i);
        }
        Check.due("8: FULL", x.type('x'), -3);
        Check.due("23: the length of the text", x.count(13), 60);
        Check.due("8: is no act", x.count(12), 0);
        Check.due("9: the length that it had", x.clearText(), 60);
        Check.due("9: empty then", x.clearText(), 0);
        Check.due("23: the length of the text", x.count(13), 0);
        Check.due("8: from the start again", x.type('x'), 1);
        Check.due("9: is no act", x.count(12), 0);
    }

    private static void typeAnything() {
        CanalSteps x = new CanalSteps();
        char[] strange = {0, 31, 127, 128, 255, 256, 0x663, 0xd800, 0xffff};
        for (char sign : strange) {
            x.clearText();
            Check.due("8: any character", x.type(sign), 1);
            Check.due("10: not allowed", x.perform(), -100);
            x.clearText();
            x.type('x');
            Check.due("8: any character", x.type(sign), 2);
            Check.due("10: no digit", x.perform(), -101);
            x.clearText();
            x.type('.');
            x.type('1');
            x.type(sign);
            Check.due("10: no digit that goes on", x.perform(), -102);
        }
    }

    private static void faults() {
        fault("", 0);
        fault(" ", 0);
        fault(";", 0);
        fault("B0>1@5", 0);
        fault("5", 0);
        fault("b", 1);
        fault("b6", 1);
        fault("b>", 1);
        fault("b0", 2);
        fault("b0;", 2);
        fault("b00>1@5", 2);
        fault("b10>1@5", 2);
        fault("b0>", 3);
        fault("b0>6", 3);
        fault("b0>@", 3);
        fault("b0>1", 4);
        fault("b0>12@5", 4);
        fault("b0>1;", 4);
        fault("b0>1@", 5);
        fault("b0>1@0", 5);
        fault("b0>1@x", 5);
        fault("b0>1@61", 6);
        fault("b0>1@70", 6);
        fault("b0>1@600", 7);
        fault("b0>1@5:", 6);
        fault("b0>1@5 ", 6);
        fault("r", 1);
        fault("r0", 1);
        fault("r1:0>1@5", 1);
        fault("r7:0>1@5", 1);
        fault("r2", 2);
        fault("r22:0>1@5", 2);
        fault("r2>0>1@5", 2);
        fault("r2:", 3);
        fault("r2:6", 3);
        fault("r2:0", 4);
        fault("r2:0:1@5", 4);
        fault("r2:0>", 5);
        fault("r2:0>9", 5);
        fault("r2:0>1", 6);
        fault("r2:0>1@", 7);
        fault("r2:0>1@99", 8);
        fault("x", 1);
        fault("x5", 1);
        fault("x-", 1);
        fault("x00", 2);
        fault("x10", 2);
        fault("x01", 2);
        fault(".", 1);
        fault(".0", 1);
        fault(".00", 1);
        fault(".100", 3);
        fault(".990", 3);
        fault(".9;", 3);
        fault("x0;;x0", 3);
        fault("x0;x0;", 6);
        fault("x0;.5;b0>1@5;r2:5>4@60;x", 24);
        fault("x0;b0>0@0;x0", 8);
    }

    private static void fault(String text, int due) {
        CanalSteps x = new CanalSteps();
        Check.write(x, text);
        Check.due("10: the fault of \"" + text + "\"", x.perform(), -100 - due);
        Check.due("10: is no act", x.count(12), 0);
        Check.due("11: a fault is no stop", x.stopped(0), -5);
        Check.due("10: the text stays", x.count(13), text.length());
    }

    private static void faultChangesNothing() {
        CanalSteps x = new CanalSteps();
        Check.write(x, "b0>1@5;x3;.9;y");
        String was = Check.picture(x);
        Check.due("10: a fault behind good things", x.perform(), -113);
        Check.samePicture("10: nothing is done", x, was);
    }

    private static void allowed() {
        goesThrough("b0>1@1", 1);
        goesThrough("b5>0@60", 1);
        goesThrough("b4>3@59", 1);
        goesThrough("b2>3@9", 1);
        goesThrough("r2:0>5@10", 1);
        goesThrough("r6:5>0@6", 1);
        goesThrough("x0", 1);
        goesThrough("x4", 1);
        goesThrough(".1", 1);
        goesThrough(".10", 1);
        goesThrough(".99", 1);
        goesThrough("x0;x0;x0", 3);
        goesThrough(".1;x1;r3:1>0@20;b3>4@40", 4);
    }

    private static void goesThrough(String text, int things) {
        CanalSteps x = new CanalSteps();
        Check.write(x, text);
        Check.due("10: \"" + text + "\"", x.perform(), things);
        Check.due("10: one act", x.count(12), 1);
        Check.due("11: nothing was stopped", x.stopped(0) + x.stopped(1), -10);
        Check.due("12: undone at once", x.undo(), 0);
        Check.samePicture("12: as at first", x, Check.picture(new CanalSteps()));
    }

    private static void perform() {
        CanalSteps x = new CanalSteps();
        Check.write(x, "b0>2@30;r3:5>1@17;x1;.12;x4;.9;x4;b1>0@60");
        Check.due("10: all of it", x.perform(), 8);
        CanalSteps y = new CanalSteps();
        y.boat(1, 0, 2, 30);
        y.boat(3, 5, 1, 17);
        y.turnLock(1);
        y.pass(12);
        y.turnLock(4);
        y.pass(9);
        y.turnLock(4);
        y.boat(1, 1, 0, 60);
        Check.samePicture("10: as by hand", x, Check.picture(y));
    }

    private static void performAnother() {
        CanalSteps x = new CanalSteps();
        Check.write(x, "x0;r2:0>1@9;.5");
        Check.due("10: a text", x.perform(), 3);
        Check.write(x, ".7;b0>1@9;b0>1@9;x3");
        Check.due("10: another in its place", x.perform(), 4);
        Check.due("23: its ticks", x.count(0), 12);
        Check.due("23: its boats", x.count(1), 3);
        Check.due("16: its lock", x.lock(3, 0), 1);
        Check.write(x, "x");
        Check.due("10: nothing is left behind the new text", x.perform(), -101);
        Check.write(x, ".1");
        Check.due("10: nor a digit", x.perform(), 1);
        Check.write(x, "b0>1@2");
        Check.due("10: other things at the same places", x.perform() * 100 + x.count(1), 104);
        Check.write(x, "b0>");
        Check.due("10: nor a pound", x.perform(), -103);
        Check.write(x, "b0");
        Check.due("10: nor another sign", x.perform(), -102);
    }

    private static void performStays() {
        CanalSteps x = new CanalSteps();
        Check.write(x, "b0>1@9;.9");
        Check.due("10: once", x.perform(), 2);
        Check.due("10: the text stays", x.count(13), 9);
        Check.due("10: twice", x.perform(), 2);
        Check.due("10: two boats, two acts", x.count(2) * 10 + x.count(12), 22);
        Check.due("12: undone", x.undo(), 1);
        Check.due("10: the text is not undone", x.count(13), 9);
        Check.due("8: one more sign", x.type('9'), 10);
        Check.due("10: 99 ticks", x.perform() + x.count(0), 110);
    }

    private static void stopsOfEachKind() {
        stop("b1>1@5", 0, -2);
        stop(".5;r4:0>0@5;x9x", -1, 0);
        stop(".5;r4:0>0@5;x1", 1, -2);
        CanalSteps x = new CanalSteps();
        x.setDepth(3, 0);
        Check.write(x, "x1;x1;x2;x0");
        String was = Check.picture(x);
        Check.due("10: too little water", x.perform(), -4);
        Check.due("11: the third", x.stopped(0), 2);
        Check.due("11: NOT_POSSIBLE", x.stopped(1), -4);
        Check.samePicture("10: nothing is done", x, was);
        CanalSteps y = new CanalSteps();
        for (int i = 0; i < 14; i++) {
            y.boat(1, 0, 1, 5);
        }
        Check.write(y, "b0>1@5;.1;b0>1@5;r2:0>1@5");
        Check.due("10: no room", y.perform(), -4);
        Check.due("11: the fourth", y.stopped(0), 3);
        Check.due("11: FULL", y.stopped(1), -3);
        Check.due("10: all of it, or nothing", y.count(1) * 10 + y.count(0), 140);
        Check.due("10: the history stays", y.count(12), 4);
        Check.due("12: a state of the boats", y.undo() + y.count(1), 16);
    }

    private static void stop(String text, int number, int error) {
        CanalSteps x = new CanalSteps();
        Check.write(x, text);
        if (number < 0) {
            Check.due("10: a fault comes ahead of a stop", x.perform(), -113);
            Check.due("11: nothing was stopped", x.stopped(0), -5);
            return;
        }
        Check.due("10: stopped", x.perform(), -4);
        Check.due("11: the number", x.stopped(0), number);
        Check.due("11: the error", x.stopped(1), error);
        Check.due("10: no act", x.count(12), 0);
        Check.samePicture("10: nothing is done", x, Check.picture(new CanalSteps()));
    }

    private static void stopIsTheLatest() {
        CanalSteps x = new CanalSteps();
        Check.due("11: nothing yet", x.stopped(0), -5);
        Check.due("11: BAD_VALUE ahead of NONE", x.stopped(2), -2);
        x.keep();
        Check.write(x, "x0;b1>1@5");
        x.perform();
        Check.write(x, "x0");
        Check.due("10: a later one is done", x.perform(), 1);
        Check.due("11: the stop is told still", x.stopped(0) * 10 + x.stopped(1), 8);
        Check.write(x, "x0;y");
        x.perform();
        Check.due("11: a fault leaves it", x.stopped(0) * 10 + x.stopped(1), 8);
        x.undo();
        x.restore();
        Check.due("11: it is in no state", x.stopped(0) * 10 + x.stopped(1), 8);
        x.setDepth(1, 0);
        Check.write(x, "x0");
        Check.due("10: a second stop", x.perform(), -4);
        Check.due("11: it takes the place of the first", x.stopped(0) * 10 + x.stopped(1), -4);
        int[] noQuestions = {Integer.MIN_VALUE, -1, 2, Integer.MAX_VALUE};
        for (int what : noQuestions) {
            Check.due("11: what " + what, x.stopped(what), -2);
        }
    }

    private static void longest() {
        StringBuilder text = new StringBuilder("x0");
        for (int i = 1; i < 20; i++) {
            text.append(";x").append(i % 5);
        }
        CanalSteps x = new CanalSteps();
        Check.write(x, text.toString());
        Check.due("10: 20 things in 59 signs", x.perform(), 20);
        Check.due("4: each lock was turned four times", x.count(8) * 100 + x.count(5), 10);
        x.type(';');
        Check.due("10: 60 signs end too early", x.perform(), -160);
        x.clearText();
        Check.write(x, "r2:0>1@10;r2:0>1@10;r2:0>1@10;r2:0>1@10;r2:0>1@10;r2:0>1@100");
        Check.due("10: the fault of the last sign", x.perform(), -159);
    }
}
