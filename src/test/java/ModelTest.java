import java.util.Random;

/** All promises at once: long runs of calls, with wild arguments among them, against the model. */
public final class ModelTest {
    private static final int RUNS = 600;
    private static final int CALLS = 512;
    private static final int[] WILD = {Integer.MIN_VALUE, -100, -2, -1, 7, 16, 17, 61, 91, 100, 501, Integer.MAX_VALUE};
    private static final String[] TEXTS = {
        "x0", "x1;x1", "b0>5@20;.9", "b5>0@30;b4>1@25;.20", "r3:0>4@15;x2;.5", "r6:5>2@35;.99",
        "b1>1@5", "x0;b2>2@9", ".99;.99;.99", "b0>1@61", "r1:0>1@5", "x5", "", ".0", "x0;", "b3>2@4;x4;x4;.3;r2:2>3@60"};

    private final Random random;
    private final CanalSteps x = new CanalSteps();
    private final CanalModel model = new CanalModel();
    // How much water there is differs from run to run, so that some boats lie aground and others do not.
    private final int usualDraught;
    private final boolean isDry;
    // What was called last, and what the model answered to it.
    private String call = "";
    private int wanted;

    private ModelTest(long seed) {
        random = new Random(seed);
        isDry = seed % 3 == 0;
        usualDraught = isDry ? 1 + random.nextInt(9) : 15 + random.nextInt(30);
    }

    public static void main(String[] args) {
        for (int run = 0; run < RUNS; run++) {
            new ModelTest(run).go(run);
        }
        Check.end();
    }

    private void go(int run) {
        int calls = 0;
        if (isDry) {
            Check.due("run " + run + ": set(2, 1)", x.set(2, 1), model.set(2, 1));
            Check.due("run " + run + ": set(0, 15)", x.set(0, 15), model.set(0, 15));
            calls = 2;
        }
        while (calls < CALLS) {
            calls += oneStep(run);
        }
    }

    private int oneStep(int run) {
        int kind = random.nextInt(100);
        if (kind < 6) {
            return writeText(run);
        }
        int got = kind < 50 ? act(random.nextInt(18)) : ask(random.nextInt(12));
        Check.due("run " + run + ": " + call, got, wanted);
        return 1;
    }

    private int number(int least, int most) {
        if (random.nextInt(25) == 0) {
            return WILD[random.nextInt(WILD.length)];
        }
        return least + random.nextInt(most - least + 1);
    }

    private int draught() {
        return number(Math.max(1, usualDraught - 14), usualDraught + 12);
    }

    private int writeText(int run) {
        StringBuilder text = new StringBuilder(TEXTS[random.nextInt(TEXTS.length)]);
        if (random.nextInt(3) == 0) {
            text.append(';').append(TEXTS[random.nextInt(TEXTS.length)]);
        }
        if (random.nextInt(3) == 0 && text.length() > 0) {
            String signs = "0123456789br:>@x.; \u00e9";
            text.setCharAt(random.nextInt(text.length()), signs.charAt(random.nextInt(signs.length())));
        }
        Check.due("run " + run + ": clearText()", x.clearText(), model.clearText());
        for (int i = 0; i < text.length(); i++) {
            Check.due("run " + run + ": type", x.type(text.charAt(i)), model.type(text.charAt(i)));
        }
        Check.due("run " + run + ": perform() of " + text, x.perform(), model.perform());
        return text.length() + 2;
    }

    private int act(int which) {
        int a = 0;
        int b = 0;
        switch (which) {
            case 0: case 1: case 2: case 3:
                int pieces = random.nextInt(3) == 0 ? number(1, 6) : 1;
                int from = number(0, 5);
                int to = number(0, 5);
                int draught = draught();
                call = "boat(" + pieces + ", " + from + ", " + to + ", " + draught + ")";
                wanted = model.boat(pieces, from, to, draught);
                return x.boat(pieces, from, to, draught);
            case 4:
                a = number(0, 15);
                b = draught();
                call = "load(" + a + ", " + b + ")";
                wanted = model.load(a, b);
                return x.load(a, b);
            case 5: case 6:
                a = number(0, 4);
                call = "turnLock(" + a + ")";
                wanted = model.turnLock(a);
                return x.turnLock(a);
            case 7: case 8:
                a = number(0, 5);
                b = isDry || random.nextInt(3) == 0 ? number(0, 16) : number(0, 90);
                call = "setDepth(" + a + ", " + b + ")";
                wanted = model.setDepth(a, b);
                return x.setDepth(a, b);
            case 9:
                a = number(0, 2);
                b = a == 1 ? number(1, 6) : a == 2 && isDry ? number(0, 2) : number(0, 20);
                call = "set(" + a + ", " + b + ")";
                wanted = model.set(a, b);
                return x.set(a, b);
            case 10: case 11: case 12:
                a = random.nextInt(4) == 0 ? number(1, 99) : number(1, 4);
                call = "pass(" + a + ")";
                wanted = model.pass(a);
                return x.pass(a);
            case 13:
                call = "perform()";
                wanted = model.perform();
                return x.perform();
            case 14: case 15:
                call = "undo()";
                wanted = model.undo();
                return x.undo();
            case 16:
                call = "keep()";
                wanted = model.keep();
                return x.keep();
            default:
                call = "restore()";
                wanted = model.restore();
                return x.restore();
        }
    }

    private int ask(int which) {
        int a = 0;
        int b = 0;
        switch (which) {
            case 0: case 1:
                a = number(0, 15);
                b = number(0, 9);
                call = "boatOf(" + a + ", " + b + ")";
                wanted = model.boatOf(a, b);
                return x.boatOf(a, b);
            case 2:
                a = number(0, 4);
                b = number(0, 7);
                call = "lock(" + a + ", " + b + ")";
                wanted = model.lock(a, b);
                return x.lock(a, b);
            case 3:
                a = number(0, 5);
                b = number(0, 3);
                call = "pound(" + a + ", " + b + ")";
                wanted = model.pound(a, b);
                return x.pound(a, b);
            case 4: case 5:
                a = number(0, 15);
                call = "reason(" + a + ")";
                wanted = model.reason(a);
                return x.reason(a);
            case 6:
                a = number(0, 15);
                call = "arrivesIn(" + a + ")";
                wanted = model.arrivesIn(a);
                return x.arrivesIn(a);
            case 7:
                a = number(0, 1);
                call = "water(" + a + ")";
                wanted = model.water(a);
                return x.water(a);
            case 8:
                a = number(0, 1);
                call = "bestTurn(" + a + ")";
                wanted = model.bestTurn(a);
                return x.bestTurn(a);
            case 9:
                a = random.nextInt(3) == 0 ? number(1, 500) : number(1, 9);
                b = number(0, 3);
                call = "ifTicks(" + a + ", " + b + ")";
                wanted = model.ifTicks(a, b);
                return x.ifTicks(a, b);
            case 10:
                a = number(0, 1);
                call = "stopped(" + a + ")";
                wanted = model.stopped(a);
                return x.stopped(a);
            default:
                a = number(0, 13);
                call = "count(" + a + ")";
                wanted = model.count(a);
                return x.count(a);
        }
    }
}
