/** Counts answers that are not due, and feeds texts. */
final class Check {
    private final String test;
    private int asked = 0;
    private int wrong = 0;

    Check(String test) {
        this.test = test;
    }

    void due(String call, long got, long want) {
        asked++;
        if (got != want) {
            wrong++;
            System.out.println(test + ": " + call + " answered " + got + ", due is " + want);
        }
    }

    void due(String call, boolean got, boolean want) {
        due(call, got ? 1 : 0, want ? 1 : 0);
    }

    /** Of all that can be seen of two objects: tells from where on it is not alike. */
    void alike(String call, String got, String want) {
        asked++;
        if (!got.equals(want)) {
            wrong++;
            int at = 0;
            while (at < got.length() && at < want.length() && got.charAt(at) == want.charAt(at)) {
                at++;
            }
            int from = Math.max(0, at - 60);
            System.out.println(test + ": " + call + ": .." + got.substring(from, Math.min(got.length(), at + 60))
                + ".. is shown, due is .." + want.substring(from, Math.min(want.length(), at + 60)) + "..");
        }
    }

    int asked() {
        return asked;
    }

    int wrong() {
        return wrong;
    }

    /** Ends the program: exit code 1 if an answer was not the one that is due. */
    void end() {
        System.out.println(test + ": " + asked + " answers, " + wrong + " of them wrong");
        if (wrong != 0 || asked == 0) {
            System.exit(1);
        }
    }

    static String brief(String text) {
        return text.length() > 90 ? text.substring(0, 90) + " .." : text;
    }

    static String times(int n, String part) {
        StringBuilder text = new StringBuilder();
        for (int i = 0; i < n; i++) {
            text.append(part.replace('#', (char) ('a' + i)));
        }
        return text.toString();
    }

    /** Puts a text behind the tape, byte by byte as its characters are. */
    static void feed(ThimbleSea sea, String text) {
        int length = text.length();
        for (int at = 0; at < length; at += 20) {
            int[] words = new int[5];
            for (int i = 0; i < 20; i++) {
                int sign = at + i < length ? text.charAt(at + i) : ' ';
                words[i / 4] |= (sign & 255) << 24 - 8 * (i % 4);
            }
            sea.feed(words[0], words[1], words[2], words[3], words[4]);
        }
        sea.back((20 - length % 20) % 20);
    }

    static ThimbleSea sea(String text) {
        ThimbleSea sea = new ThimbleSea();
        feed(sea, text);
        int fault = sea.read();
        if (fault != 0) {
            throw new IllegalStateException("fault " + fault + " at " + sea.place() + " of " + text);
        }
        return sea;
    }
}
