/** What the document tells under TEXTS, and the promises 8 to 11: the text, its faults, its traffic and its stops. */
public final class TextsTest {
    // All signs that a text may hold, and some beyond.
    private static final int SIGNS = 300;

    public static void main(String[] args) {
        atMostSixtyCharacters();
        emptyAtFirst();
        oneOrMore();
        bargeComes();
        raftComes();
        lockIsTurned();
        ticksPass();
        poundIsADigit();
        noZeroInFront();
        noDigitTooMany();
        signsThatAreAllowed();
        faultIsTheFirst();
        faultAtTheEnd();
        faultOfLongTexts();
        type();
        typeAnything();
        typeFull();
        clearText();
        perform();
        performAnother();
        performIsOneAct();
        performStays();
        performReturnsTheNumberOfThings();
        performFault();
        performAllOrNothing();
        stopOfEachError();
        stopByAnError();
        stoppedNothingYet();
        stoppedIsTheLatest();
        stoppedWhat();
        Check.end();
    }

    private static void fault(String text, int due) {
        CanalSteps x = new CanalSteps();
        Check.write(x, text);
        Check.due("the fault of \"" + text + "\"", x.perform(), -100 - due);
        Check.due("is no act", x.count(12), 0);
        Check.due("is no stop", x.stopped(0), -5);
        Check.due("the text stays", x.count(13), text.length());
    }

    private static void goesThrough(String text, int things) {
        CanalSteps x = new CanalSteps();
        Check.write(x, text);
        Check.due("\"" + text + "\"", x.perform(), things);
        Check.due("one act", x.count(12), 1);
        Check.due("nothing was stopped", x.stopped(0) + x.stopped(1), -10);
        Check.due("undone at once", x.undo(), 0);
        Check.samePicture("as at first", x, Check.picture(new CanalSteps()));
    }

    private static void atMostSixtyCharacters() {
        Check.says(0, "There is a text of at most 60 characters,");
        CanalSteps x = new CanalSteps();
        Check.write(x, "r2:0>1@10;r2:0>1@10;r2:0>1@10;r2:0>1@10;r2:0>1@10;r2:0>1@10");
        Check.due("59", x.count(13), 59);
        Check.due("60", x.type(';'), 60);
        Check.due("no 61st", x.type('x'), -3);
        Check.due("still 60", x.count(13), 60);
        Check.due("the 61st is not in it", x.perform(), -160);
        x.clearText();
        Check.write(x, "r2:0>1@10;r2:0>1@10;r2:0>1@10;r2:0>1@10;r2:0>1@10;.10;b4>3@1");
        Check.due("traffic of 60 characters", x.perform(), 7);
    }

    private static void emptyAtFirst() {
        Check.says(0, "empty at first.");
        CanalSteps x = new CanalSteps();
        Check.due("the length", x.count(13), 0);
        Check.due("nothing to clear", x.clearText(), 0);
        Check.due("the first character", x.type('.'), 1);
    }

    private static void oneOrMore() {
        Check.says(0, "Traffic is a text: one or more of these with \";\" between two:");
        fault("", 0);
        goesThrough("x0", 1);
        goesThrough("x0;x1", 2);
        goesThrough("x0;x0;x0", 3);
        fault(";", 0);
        fault(";x0", 0);
        fault("x0;", 3);
        fault("x0;;x0", 3);
        fault("x0x0", 2);
        fault("x0 ;x0", 2);
        fault("x0,x0", 2);
        StringBuilder text = new StringBuilder("x0");
        for (int i = 1; i < 20; i++) {
            text.append(";x").append(i % 5);
        }
        CanalSteps x = new CanalSteps();
        Check.write(x, text.toString());
        Check.due("20 things in 59 characters", x.perform(), 20);
        Check.due("each lock was turned four times", x.count(8) * 100 + x.count(5), 10);
        x.type(';');
        Check.due("60 characters end too early", x.perform(), -160);
    }

    private static void bargeComes() {
        Check.says(0, "\"b\", a pound, \">\", a pound, \"@\" and a draught (1 to 60: a barge comes);");
        goesThrough("b0>1@1", 1);
        goesThrough("b5>0@60", 1);
        goesThrough("b2>3@9", 1);
        goesThrough("b2>3@10", 1);
        goesThrough("b4>3@59", 1);
        fault("b0>1@0", 5);
        fault("b0>1@61", 6);
        fault("b0>1@100", 7);
        fault("B0>1@5", 0);
        fault("b>1@5", 1);
        fault("b0<1@5", 2);
        fault("b0>@5", 3);
        fault("b0>1:5", 4);
        fault("b0>1@x", 5);
        fault("b0>1@-5", 5);
        fault("b0>1@5:", 6);
        CanalSteps x = new CanalSteps();
        Check.write(x, "b4>1@37");
        Check.due("a barge", x.perform(), 1);
        Check.due("of 1 piece", x.boatOf(0, 0), 1);
        Check.due("from, to, draught", x.boatOf(0, 2) * 1000 + x.boatOf(0, 3) * 100 + x.boatOf(0, 1), 4137);
    }

    private static void raftComes() {
        Check.says(0, "\"r\" and pieces (2 to 6), \":\", a pound, \">\", a pound, \"@\" and a draught (a raft comes);");
        for (int pieces = 2; pieces <= 6; pieces++) {
            goesThrough("r" + pieces + ":0>5@10", 1);
        }
        goesThrough("r2:5>0@1", 1);
        goesThrough("r2:5>0@60", 1);
        int[] noPieces = {0, 1, 7, 8, 9};
        for (int pieces : noPieces) {
            fault("r" + pieces + ":0>1@5", 1);
        }
        fault("r:0>1@5", 1);
        fault("r22:0>1@5", 2);
        fault("r20:0>1@5", 2);
        fault("r2>0>1@5", 2);
        fault("r2:6>1@5", 3);
        fault("r2:0:1@5", 4);
        fault("r2:0>9@5", 5);
        fault("r2:0>1:5", 6);
        fault("r2:0>1@0", 7);
        fault("r2:0>1@61", 8);
        CanalSteps x = new CanalSteps();
        Check.write(x, "r5:4>1@37");
        Check.due("a raft", x.perform(), 1);
        Check.due("of 5 pieces", x.boatOf(0, 0), 5);
        Check.due("from, to, draught", x.boatOf(0, 2) * 1000 + x.boatOf(0, 3) * 100 + x.boatOf(0, 1), 4137);
    }

    private static void lockIsTurned() {
        Check.says(0, "\"x\" and a lock (0 to 4: its chamber is turned);");
        for (int lock = 0; lock <= 4; lock++) {
            goesThrough("x" + lock, 1);
            CanalSteps x = new CanalSteps();
            Check.write(x, "x" + lock);
            x.perform();
            Check.due("filled", x.lock(lock, 0) * 10 + x.count(8), 11);
            x.perform();
            Check.due("emptied", x.count(8), 0);
        }
        fault("x5", 1);
        fault("x9", 1);
        fault("x-1", 1);
        fault("x", 1);
        fault("x10", 2);
        fault("x40", 2);
    }

    private static void ticksPass() {
        Check.says(0, "\".\" and ticks (1 to 99: they pass).");
        int[] ticks = {1, 9, 10, 11, 90, 98, 99};
        for (int some : ticks) {
            goesThrough("." + some, 1);
            CanalSteps x = new CanalSteps();
            Check.write(x, "." + some);
            x.perform();
            Check.due("the tick", x.count(0), some);
        }
        fault(".", 1);
        fault(".0", 1);
        fault(".-1", 1);
        fault(".100", 3);
        fault(".990", 3);
    }

    private static void poundIsADigit() {
        Check.says(0, "A pound is a digit from 0 to 5.");
        for (int pound = 0; pound <= 9; pound++) {
            int other = pound == 3 ? 2 : 3;
            if (pound <= 5) {
                goesThrough("b" + pound + ">" + other + "@5", 1);
                goesThrough("b" + other + ">" + pound + "@5", 1);
                goesThrough("r2:" + pound + ">" + other + "@5", 1);
                goesThrough("r2:" + other + ">" + pound + "@5", 1);
            } else {
                fault("b" + pound + ">3@5", 1);
                fault("b3>" + pound + "@5", 3);
                fault("r2:" + pound + ">3@5", 3);
                fault("r2:3>" + pound + "@5", 5);
            }
        }
        fault("b10>1@5", 2);
        fault("b0>12@5", 4);
    }

    private static void noZeroInFront() {
        Check.says(0, "Numbers have no zero in front, unless they are the single digit 0;");
        fault("b00>1@5", 2);
        fault("b01>1@5", 2);
        fault("b1>00@5", 4);
        fault("b0>1@05", 5);
        fault("b0>1@00", 5);
        fault("r02:0>1@5", 1);
        fault("r2:00>1@5", 4);
        fault("r2:0>1@06", 7);
        fault("x00", 2);
        fault("x01", 2);
        fault(".01", 1);
        fault(".00", 1);
        goesThrough("b0>1@5;x0", 2);
        goesThrough("b1>0@50;.10", 2);
    }

    private static void noDigitTooMany() {
        Check.says(0, "a digit by which a number would be greater than told is not allowed.");
        for (int digit = 0; digit <= 9; digit++) {
            if (digit == 0) {
                goesThrough("b0>1@6" + digit, 1);
            } else {
                fault("b0>1@6" + digit, 6);
            }
            goesThrough("b0>1@5" + digit, 1);
            goesThrough(".9" + digit, 1);
            fault("b0>1@7" + digit, 6);
            fault("b0>1@9" + digit, 6);
            fault("b0>1@60" + digit, 7);
            fault("b0>1@10" + digit, 7);
            fault(".10" + digit, 3);
            fault(".99" + digit, 3);
            fault("x4" + digit, 2);
            fault("x1" + digit, 2);
            fault("r6" + digit, 2);
            fault("b5" + digit, 2);
            fault("b0>5" + digit, 4);
        }
    }

    /** Tries each sign behind the beginning of a traffic: only these are allowed there. */
    private static void allowedBehind(String beginning, String allowed) {
        for (int i = 0; i < SIGNS; i++) {
            CanalSteps x = new CanalSteps();
            Check.write(x, beginning);
            x.type((char) i);
            int answer = x.perform();
            boolean refused = answer == -100 - beginning.length();
            String what = "the sign " + i + " behind \"" + beginning + "\", answer " + answer;
            Check.due(what, refused ? 0 : 1, allowed.indexOf((char) i) >= 0 ? 1 : 0);
        }
    }

    private static void signsThatAreAllowed() {
        Check.says(0, "the first character that is not allowed at its place,");
        allowedBehind("", "brx.");
        allowedBehind("b", "012345");
        allowedBehind("b5", ">");
        allowedBehind("b5>", "012345");
        allowedBehind("b5>0", "@");
        allowedBehind("b5>0@", "123456789");
        allowedBehind("b5>0@1", "0123456789;");
        allowedBehind("b5>0@5", "0123456789;");
        allowedBehind("b5>0@6", "0;");
        allowedBehind("b5>0@7", ";");
        allowedBehind("b5>0@10", ";");
        allowedBehind("b5>0@60", ";");
        allowedBehind("r", "23456");
        allowedBehind("r6", ":");
        allowedBehind("r6:", "012345");
        allowedBehind("r6:1", ">");
        allowedBehind("r6:1>", "012345");
        allowedBehind("r6:1>5", "@");
        allowedBehind("r6:1>5@", "123456789");
        allowedBehind("r6:1>5@6", "0;");
        allowedBehind("r6:1>5@59", ";");
        allowedBehind("x", "01234");
        allowedBehind("x0", ";");
        allowedBehind("x4", ";");
        allowedBehind(".", "123456789");
        allowedBehind(".1", "0123456789;");
        allowedBehind(".9", "0123456789;");
        allowedBehind(".10", ";");
        allowedBehind(".99", ";");
        allowedBehind("x0;", "brx.");
        allowedBehind("x0;.9;b1>0@5;r2:0>1@5;", "brx.");
    }

    private static void faultIsTheFirst() {
        Check.says(0, "The fault of the text is the index, from 0, of the first character that is not allowed at its place,");
        fault(" ", 0);
        fault("5", 0);
        fault("yy", 0);
        fault("x9;y", 1);
        fault("x0;x9;y", 4);
        fault("x0;b0>0@0;x0", 8);
        fault("x0;.5;b0>1@5;r2:5>4@6a;x", 21);
        fault("x0;.5;b0>1@5;r2:5>4@60;x5", 24);
    }

    private static void faultAtTheEnd() {
        Check.says(0, "or the length of the text if it ends too early (the empty text does).");
        fault("", 0);
        String[] whole = {"b0>1@", "r2:0>1@", "x", "."};
        for (String text : whole) {
            for (int length = 0; length <= text.length(); length++) {
                fault(text.substring(0, length), length);
                fault("x0;" + text.substring(0, length), 3 + length);
                fault("b1>2@60;.99;" + text.substring(0, length), 12 + length);
            }
        }
    }

    private static void faultOfLongTexts() {
        Check.says(0, "or the length of the text if it ends too early");
        fault("r2:0>1@10;r2:0>1@10;r2:0>1@10;r2:0>1@10;r2:0>1@10;r2:0>1@100", 59);
        fault("r2:0>1@10;r2:0>1@10;r2:0>1@10;r2:0>1@10;r2:0>1@10;.1;r2:0>1@", 60);
        fault("r2:0>1@10;r2:0>1@10;r2:0>1@10;r2:0>1@10;r2:0>1@10;.10;.9;.1;", 60);
    }

    private static void type() {
        Check.says(8, "Types a character behind the text.");
        CanalSteps x = new CanalSteps();
        x.type('x');
        x.type('4');
        Check.due("both, in their order", x.perform() * 10 + x.lock(4, 0), 11);
        x.type(';');
        x.type('x');
        x.type('3');
        Check.due("and the next ones behind", x.perform() * 100 + x.lock(4, 0) * 10 + x.lock(3, 0), 201);
    }

    private static void typeAnything() {
        Check.says(8, "`character`: any character");
        CanalSteps x = new CanalSteps();
        char[] strange = {0, 31, 127, 128, 255, 256, 0x130, 0x132, 0x62 + 256, 0x663, 0xd800, 0xffff};
        for (char sign : strange) {
            x.clearText();
            Check.due("any character", x.type(sign), 1);
            Check.due("not allowed", x.perform(), -100);
            x.clearText();
            x.type('x');
            Check.due("any character", x.type(sign), 2);
            Check.due("no digit", x.perform(), -101);
            x.clearText();
            x.type('.');
            x.type('1');
            x.type(sign);
            Check.due("no digit that goes on", x.perform(), -102);
        }
    }

    private static void typeFull() {
        Check.says(8, "Returns the length of the text then; FULL if it has 60 characters.");
        CanalSteps x = new CanalSteps();
        for (int i = 1; i <= 60; i++) {
            Check.due("the length", x.type('x'), i);
            Check.due("told", x.count(13), i);
        }
        Check.due("FULL", x.type('x'), -3);
        Check.due("FULL again", x.type((char) 0), -3);
        Check.due("60 still", x.count(13), 60);
        Check.due("no act", x.count(12), 0);
        x.clearText();
        Check.due("room again", x.type('x'), 1);
    }

    private static void clearText() {
        Check.says(9, "Empties the text.");
        CanalSteps x = new CanalSteps();
        Check.write(x, "x0");
        x.clearText();
        Check.due("empty", x.count(13), 0);
        Check.due("no traffic", x.perform(), -100);
        Check.says(9, "Returns the length that it had.");
        Check.due("the empty one", x.clearText(), 0);
        Check.write(x, ".99");
        Check.due("of 3", x.clearText(), 3);
        for (int i = 0; i < 60; i++) {
            x.type('x');
        }
        Check.due("of 60", x.clearText(), 60);
        Check.due("the empty one again", x.clearText(), 0);
        Check.due("no act", x.count(12), 0);
    }

    private static void perform() {
        Check.says(10, "Does all that the traffic of the text, which stays, tells, one after the other "
            + "(as boat(), turnLock() and pass());");
        CanalSteps x = new CanalSteps();
        Check.write(x, "b0>2@30;r3:5>1@17;x1;.12;x4;.9;x4;b1>0@60");
        Check.due("all of it", x.perform(), 8);
        CanalSteps y = new CanalSteps();
        y.boat(1, 0, 2, 30);
        y.boat(3, 5, 1, 17);
        y.turnLock(1);
        y.pass(12);
        y.turnLock(4);
        y.pass(9);
        y.turnLock(4);
        y.boat(1, 1, 0, 60);
        Check.samePicture("as by hand", x, Check.picture(y));
    }

    private static void performAnother() {
        Check.says(10, "Does all that the traffic of the text,");
        CanalSteps x = new CanalSteps();
        Check.write(x, "x0;r2:0>1@9;.5");
        Check.due("a text", x.perform(), 3);
        Check.write(x, ".7;b0>1@9;b0>1@9;x3");
        Check.due("another in its place", x.perform(), 4);
        Check.due("its ticks", x.count(0), 12);
        Check.due("its boats", x.count(1), 3);
        Check.due("its lock", x.lock(3, 0), 1);
        Check.write(x, "x");
        Check.due("nothing is left behind the new text", x.perform(), -101);
        Check.write(x, ".1");
        Check.due("nor a digit", x.perform(), 1);
        Check.write(x, "b0>1@2");
        Check.due("other things at the same places", x.perform() * 100 + x.count(1), 104);
        Check.write(x, "b0>");
        Check.due("nor a pound", x.perform(), -103);
        Check.write(x, "b0");
        Check.due("nor another sign", x.perform(), -102);
    }

    private static void performIsOneAct() {
        Check.says(10, "all of it, or nothing. This is one act.");
        CanalSteps x = new CanalSteps();
        x.pass(3);
        String was = Check.picture(x);
        Check.write(x, "x0;.1;x1;.1;b0>1@5;.1");
        Check.due("six things", x.perform(), 6);
        Check.due("one state more", x.count(12), 2);
        Check.due("undone at once", x.undo(), 1);
        Check.samePicture("as before all of it", x, was);
    }

    private static void performStays() {
        Check.says(10, "the text, which stays,");
        CanalSteps x = new CanalSteps();
        Check.write(x, "b0>1@9;.9");
        Check.due("once", x.perform(), 2);
        Check.due("the text stays", x.count(13), 9);
        Check.due("twice", x.perform(), 2);
        Check.due("two boats, two acts", x.count(2) * 10 + x.count(12), 22);
        Check.due("undone", x.undo(), 1);
        Check.due("the text is not undone", x.count(13), 9);
        Check.due("one more sign", x.type('9'), 10);
        Check.due("99 ticks", x.perform() + x.count(0), 110);
        Check.write(x, "b0>0@9");
        Check.due("a stop", x.perform(), -4);
        Check.due("the text stays then too", x.count(13), 6);
    }

    private static void performReturnsTheNumberOfThings() {
        Check.says(10, "Returns how many things the traffic has;");
        StringBuilder text = new StringBuilder(".9");
        for (int things = 1; things <= 20; things++) {
            CanalSteps x = new CanalSteps();
            Check.write(x, text.toString());
            Check.due("things", x.perform(), things);
            Check.due("all were done", x.count(0), 9 * things);
            text.append(";.9");
        }
    }

    private static void performFault() {
        Check.says(10, "-100 minus the fault of the text if it has one (which is an error);");
        CanalSteps x = new CanalSteps();
        Check.write(x, "b0>1@5;x3;.9;y");
        String was = Check.picture(x);
        Check.due("a fault behind good things", x.perform(), -113);
        Check.samePicture("nothing is done", x, was);
        Check.due("no act", x.count(12), 0);
        Check.write(x, ".5;r4:0>0@5;x9x");
        Check.due("a fault comes ahead of a stop", x.perform(), -113);
        Check.due("nothing was stopped", x.stopped(0), -5);
    }

    private static void performAllOrNothing() {
        Check.says(10, "all of it, or nothing.");
        CanalSteps x = new CanalSteps();
        for (int i = 0; i < 13; i++) {
            x.boat(1 + i % 6, i % 6, (i + 2) % 6, 5 + i);
        }
        x.pass(7);
        Check.write(x, "b0>1@5;.1;x2;r2:0>1@5;.40;b5>0@9;x0;b0>1@5;.1");
        String was = Check.picture(x);
        Check.due("no room for the fourth boat", x.perform(), -4);
        Check.due("the eighth thing", x.stopped(0), 7);
        Check.due("FULL", x.stopped(1), -3);
        Check.samePicture("nothing is done", x, was);
        Check.due("the history stays", x.count(12), 4);
        Check.due("a state ahead of the ticks", x.undo() * 10 + x.count(0), 30);
        Check.due("a state of 12 boats", x.undo() + x.count(1), 14);
    }

    private static void stops(String text, int number, int error) {
        CanalSteps x = Check.withoutSpring();
        x.setDepth(1, 5);
        for (int i = 0; i < 14; i++) {
            x.boat(1, 3, 4, 50);
        }
        String was = Check.picture(x);
        Check.write(x, text);
        Check.due("\"" + text + "\" is stopped", x.perform(), -4);
        Check.due("the number", x.stopped(0), number);
        Check.due("the error", x.stopped(1), error);
        Check.due("no act", x.count(12), 4);
        Check.samePicture("nothing is done", x, was);
    }

    private static void stopOfEachError() {
        Check.says(10, "What would return an error stops it.");
        stops("b1>1@5", 0, -2);
        stops("r6:0>0@60", 0, -2);
        stops(".5;r4:5>5@5;x1", 1, -2);
        stops("x0", 0, -4);
        stops("x2;x3;x0;x2", 2, -4);
        stops("b0>1@5;b0>1@5;b0>1@5", 2, -3);
        stops("b0>1@5;.1;b0>1@5;r2:0>1@5;b1>1@5", 3, -3);
        stops("x2;b0>1@5;b2>2@5;x0", 2, -2);
    }

    private static void stopByAnError() {
        Check.says(10, "NOT_POSSIBLE if any is stopped.");
        stops(".1;x1;.1;.1;b0>1@5;x3;.1;x4;b0>1@5;.1;x2;.1;b3>3@5", 12, -2);
        CanalSteps x = new CanalSteps();
        Check.write(x, "x0;x0;b0>1@60;.99");
        Check.due("no boat arrives, which is no error", x.perform(), 4);
        Check.due("nothing was stopped", x.stopped(0), -5);
    }

    private static void stoppedNothingYet() {
        Check.says(11, "Returns the number; BAD_VALUE; NONE if nothing was stopped yet.");
        CanalSteps x = new CanalSteps();
        Check.due("no number", x.stopped(0), -5);
        Check.due("no error", x.stopped(1), -5);
        Check.due("BAD_VALUE ahead of NONE", x.stopped(2), -2);
        x.perform();
        Check.due("a fault is no stop", x.stopped(0) + x.stopped(1), -10);
        Check.write(x, "x0;.9");
        x.perform();
        Check.due("what was done is none", x.stopped(0) + x.stopped(1), -10);
        x.boat(1, 1, 1, 5);
        Check.due("an error of boat() is none", x.stopped(0) + x.stopped(1), -10);
    }

    private static void stoppedIsTheLatest() {
        Check.says(11, "Tells of the latest stop of perform() (also if a later one was done).");
        CanalSteps x = new CanalSteps();
        x.keep();
        Check.write(x, "x0;b1>1@5");
        x.perform();
        Check.write(x, "x0");
        Check.due("a later one is done", x.perform(), 1);
        Check.due("the stop is told still", x.stopped(0) * 10 + x.stopped(1), 8);
        Check.write(x, "x0;y");
        x.perform();
        Check.due("a fault leaves it", x.stopped(0) * 10 + x.stopped(1), 8);
        x.undo();
        x.restore();
        Check.due("it is in no state", x.stopped(0) * 10 + x.stopped(1), 8);
        x.setDepth(1, 0);
        Check.write(x, "x0");
        Check.due("a second stop", x.perform(), -4);
        Check.due("it takes the place of the first", x.stopped(0) * 10 + x.stopped(1), -4);
    }

    private static void stoppedWhat() {
        Check.says(11, "`what`: 0 for its number in the traffic, from 0, 1 for the error");
        CanalSteps x = new CanalSteps();
        Check.write(x, "b1>1@5;x0");
        x.perform();
        Check.due("the first thing", x.stopped(0), 0);
        Check.due("its error", x.stopped(1), -2);
        Check.write(x, "x0;x1;x2;x3;b1>1@5");
        x.perform();
        Check.due("the fifth thing", x.stopped(0), 4);
        int[] noQuestions = {Integer.MIN_VALUE, -1, 2, Integer.MAX_VALUE};
        for (int what : noQuestions) {
            Check.due("what " + what, x.stopped(what), -2);
        }
    }
}
