/** What the tests share: compares answers, types texts, and ends with exit code 1 if an answer was wrong. */
final class Check {
    private static int asked = 0;
    private static int wrong = 0;

    private Check() {
    }

    static void due(String what, long got, long want) {
        asked++;
        if (got != want) {
            wrong++;
            System.out.println(what + ": answered " + got + ", due is " + want);
        }
    }

    static void write(CanalSteps x, String text) {
        x.clearText();
        for (int i = 0; i < text.length(); i++) {
            due("typing " + text, x.type(text.charAt(i)), i + 1);
        }
    }

    /** The answers to all questions about a state, so that two states can be compared. */
    static String picture(CanalSteps x) {
        StringBuilder all = new StringBuilder();
        for (int what = 0; what <= 11; what++) {
            all.append(x.count(what)).append(' ');
        }
        for (int boat = 0; boat < x.count(1); boat++) {
            for (int what = 0; what <= 9; what++) {
                all.append(x.boatOf(boat, what)).append(' ');
            }
        }
        for (int lock = 0; lock < 5; lock++) {
            for (int what = 0; what <= 7; what++) {
                all.append(x.lock(lock, what)).append(' ');
            }
        }
        for (int pound = 0; pound < 6; pound++) {
            for (int what = 0; what <= 3; what++) {
                all.append(x.pound(pound, what)).append(' ');
            }
        }
        return all.append(x.water(0)).append(' ').append(x.water(1)).toString();
    }

    static void samePicture(String what, CanalSteps x, String want) {
        String got = picture(x);
        due(what + " (" + got + " where due is " + want + ")", got.equals(want) ? 1 : 0, 1);
    }

    static void end() {
        System.out.println(asked + " answers, " + wrong + " of them wrong");
        if (wrong != 0 || asked == 0) {
            System.exit(1);
        }
    }
}
