/** Counts answers that are not due, and feeds texts. */
final class Check {
    private final String test;
    private int asked = 0;
    private int wrong = 0;

    Check(String test) {
        this.test = test;
    }

    void due(String call, long got, long want) {
        asked++;
        if (got != want) {
            wrong++;
            System.out.println(test + ": " + call + " answered " + got + ", due is " + want);
        }
    }

    void due(String call, boolean got, boolean want) {
        due(call, got ? 1 : 0, want ? 1 : 0);
    }

    /** Ends the program: exit code 1 if an answer was not the one that is due. */
    void end() {
        System.out.println(test + ": " + asked + " answers, " + wrong + " of them wrong");
        if (wrong != 0 || asked == 0) {
            System.exit(1);
        }
    }

    /** Puts a text behind the tape, byte by byte as its characters are. */
    static void feed(ThimbleSea sea, String text) {
        int length = text.length();
        for (int at = 0; at < length; at += 20) {
            int[] words = new int[5];
            for (int i = 0; i < 20; i++) {
                int sign = at + i < length ? text.charAt(at + i) : ' ';
                words[i / 4] |= (sign & 255) << 24 - 8 * (i % 4);
            }
            sea.feed(words[0], words[1], words[2], words[3], words[4]);
        }
        sea.back((20 - length % 20) % 20);
    }

    static ThimbleSea sea(String text) {
        ThimbleSea sea = new ThimbleSea();
        feed(sea, text);
        int fault = sea.read();
        if (fault != 0) {
            throw new IllegalStateException("fault " + fault + " at " + sea.place() + " of " + text);
        }
        return sea;
    }
}
