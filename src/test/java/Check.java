/** What the tests share: compares answers, types texts, and ends with exit code 1 if an answer was wrong. */
final class Check {
    private static int asked = 0;
    private static int wrong = 0;
    private static String said = "";

    private Check() {
    }

    /** Quotes the document ahead of the answers that show it; the promise is 0 for the terms. */
    static void says(int promise, String words) {
        said = promise + ": " + words;
    }

    static void due(String what, long got, long want) {
        asked++;
        if (got != want) {
            wrong++;
            System.out.println(said);
            System.out.println("    " + what + ": answered " + got + ", due is " + want);
        }
    }

    static void write(CanalSteps x, String text) {
        x.clearText();
        for (int i = 0; i < text.length(); i++) {
            due("typing " + text, x.type(text.charAt(i)), i + 1);
        }
    }

    /** A canal in which no water comes from the spring. */
    static CanalSteps withoutSpring() {
        CanalSteps x = new CanalSteps();
        due("no spring", x.set(2, 0), 4);
        return x;
    }

    /** The answers to all questions about a state, so that two states can be compared. */
    static String picture(CanalSteps x) {
        StringBuilder all = new StringBuilder();
        for (int what = 0; what <= 11; what++) {
            all.append(x.count(what)).append(' ');
        }
        for (int boat = 0; boat < x.count(1); boat++) {
            for (int what = 0; what <= 9; what++) {
                all.append(x.boatOf(boat, what)).append(' ');
            }
        }
        for (int lock = 0; lock < 5; lock++) {
            for (int what = 0; what <= 7; what++) {
                all.append(x.lock(lock, what)).append(' ');
            }
        }
        for (int pound = 0; pound < 6; pound++) {
            for (int what = 0; what <= 3; what++) {
                all.append(x.pound(pound, what)).append(' ');
            }
        }
        return all.append(x.water(0)).append(' ').append(x.water(1)).toString();
    }

    static void samePicture(String what, CanalSteps x, String want) {
        sameWords(what, picture(x), want);
    }

    static void sameWords(String what, String got, String want) {
        int same = 0;
        while (same < got.length() && same < want.length() && got.charAt(same) == want.charAt(same)) {
            same++;
        }
        String told = got.equals(want) ? "" : ": \"" + got.substring(same) + "\" where due is \"" + want.substring(same) + "\"";
        due(what + told, got.equals(want) ? 1 : 0, 1);
    }

    /** What an object still holds, its history and snapshot too, told by taking it apart: only as its last use. */
    static String takenApart(CanalSteps x) {
        StringBuilder all = new StringBuilder(picture(x));
        all.append(" text ").append(x.count(13)).append(" stop ").append(x.stopped(0)).append(x.stopped(1));
        all.append(" states ").append(x.count(12));
        int left = x.undo();
        while (left >= 0) {
            all.append(" / ").append(left).append(' ').append(picture(x));
            left = x.undo();
        }
        all.append(" kept ").append(x.restore()).append(' ').append(picture(x));
        return all.append(" performs ").append(x.perform()).append(' ').append(picture(x)).toString();
    }

    static void end() {
        System.out.println(asked + " answers, " + wrong + " of them wrong");
        if (wrong != 0 || asked == 0) {
            System.exit(1);
        }
    }
}
