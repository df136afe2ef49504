import java.util.Random;

/**
 * Random texts and calls, the same every time: the program's answers beside the Oracle's. Two arguments tell other runs:
 * the first one's number, and the one behind the last.
 */
public final class RandomRunsTest {
    private static final int RUNS = 700;
    private static final int TEXTS = 2000;
    /** An object is used for 512 calls at most; no step takes more than 60, and a text not more than 120. */
    private static final int CALLS = 512;
    private static final int STEP_CALLS = 60;
    private static final int TEXT_CALLS = 120;
    private static final Check CHECK = new Check("RandomRunsTest");
    private static final String[] VARS = {"week", "level", "salt", "share", "sent", "lot"};
    private static final String[] PIECES = {"water", "heir", "sends", "dry", "basin", "claim", "seed", "of", "if", "then",
        "else", "week", "lot", ";", "=", "+", "-", "*", "/", "<", "(", ")", "a", "b", "0", "1", "99", "100", "12345",
        "abcdefghi", "!", "A", "of1"};

    private final Random random;
    private final ThimbleSea sea = new ThimbleSea();
    private final Oracle oracle = new Oracle();
    private final int run;
    private int calls = 0;

    private RandomRunsTest(int run) {
        this.run = run;
        random = new Random(run);
    }

    public static void main(String[] args) {
        int from = args.length > 1 ? Integer.parseInt(args[0]) : 0;
        int behind = args.length > 1 ? Integer.parseInt(args[1]) : RUNS;
        for (int run = from; run < behind; run++) {
            new RandomRunsTest(run).play();
        }
        for (int run = from + 1; run <= from + TEXTS; run++) {
            RandomRunsTest texts = new RandomRunsTest(-run);
            while (texts.hasCallsFor(TEXT_CALLS)) {
                texts.text(2);
            }
        }
        CHECK.end();
    }

    private void play() {
        for (int i = random.nextInt(8) == 0 ? 1 : 0; i < 2; i++) {
            text(1);
        }
        while (hasCallsFor(STEP_CALLS)) {
            if (random.nextInt(40) == 0 && hasCallsFor(TEXT_CALLS + STEP_CALLS)) {
                text(1);
            }
            one();
        }
    }

    private boolean hasCallsFor(int more) {
        return calls + more <= CALLS;
    }

    private int below(int n) {
        return random.nextInt(n);
    }

    private int pick(int... of) {
        return of[below(of.length)];
    }

    // ---- texts ----------------------------------------------------------------------------------

    private void text(int brokenOfThree) {
        String text = random.nextInt(3) < brokenOfThree ? broken(wellMade()) : wellMade();
        feed(text);
        due("count(8)", sea.count(8), oracle.count(8));
        due("read() of " + text, sea.read(), oracle.read());
        due("place() of " + text, sea.place(), oracle.place());
        for (int what = -1; what <= 13; what++) {
            due("count(" + what + ")", sea.count(what), oracle.count(what));
        }
    }

    private void feed(String text) {
        for (int at = 0; at < text.length(); at += 20) {
            StringBuilder part = new StringBuilder(text.substring(at, Math.min(text.length(), at + 20)));
            while (part.length() < 20) {
                part.append(' ');
            }
            int[] words = new int[5];
            for (int i = 0; i < 20; i++) {
                words[i / 4] = words[i / 4] << 8 | part.charAt(i) & 255;
            }
            int got = sea.feed(words[0], words[1], words[2], words[3], words[4]);
            due("feed", got, oracle.feed(part.toString()) ? oracle.count(8) : -1);
        }
        if (text.length() <= 2000 && text.length() % 20 != 0) {
            int n = 20 - text.length() % 20;
            due("back(" + n + ")", sea.back(n), oracle.back(n));
        }
    }

    private String e(int depth) {
        StringBuilder e = new StringBuilder(unit(depth));
        for (int i = below(4); i > 0; i--) {
            e.append(new String[] {" + ", "-", "*", " / "}[below(4)]).append(unit(depth));
        }
        return e.toString();
    }

    private String unit(int depth) {
        int kind = below(depth > 0 ? 5 : 4);
        if (kind < 2) {
            return "" + (below(8) == 0 ? below(10000) : below(12));
        }
        return kind < 4 ? VARS[below(6)] : "(" + e(depth - 1) + ")";
    }

    private String law() {
        StringBuilder law = new StringBuilder("= ");
        for (int i = below(5) - 2; i > 0; i--) {
            law.append("if ").append(e(1)).append(" < ").append(e(1)).append(" then ").append(e(1)).append(" else ");
        }
        return law.append(below(3) == 0 ? "" + below(15) : e(2)).append("; ").toString();
    }

    private String wellMade() {
        StringBuilder text = new StringBuilder();
        int waters = Math.min(5, below(8) == 0 ? 0 : 1 + below(6));
        int heirs = Math.min(8, below(10) == 0 ? 0 : 1 + below(8));
        for (int i = 0; i < waters; i++) {
            text.append("water w").append((char) ('a' + i)).append(' ').append(below(2) == 0 ? below(4) : below(100))
                .append(' ').append(below(10)).append("; ");
        }
        for (int i = 0; i < heirs; i++) {
            text.append("heir h").append((char) ('a' + i)).append(' ').append(1 + below(9)).append(' ').append(below(6))
                .append(' ').append(below(2) * below(40)).append(' ').append(below(40)).append("; ");
        }
        for (int i = waters * heirs == 0 ? 0 : below(heirs < 3 ? 5 : 12); i > 0; i--) {
            text.append("sends h").append((char) ('a' + below(heirs))).append(" w").append((char) ('a' + below(waters))).append(law());
        }
        for (int i = below(3); i > 0; i--) {
            text.append("dry ").append(law());
        }
        if (below(2) == 0) {
            text.append("basin ").append(below(4) == 0 ? 1 + below(9999) : 1 + below(300)).append(";");
        }
        if (below(2) == 0) {
            text.append("seed ").append(below(10000)).append(";\n");
        }
        for (int i = heirs == 0 ? 0 : below(5); i > 0; i--) {
            text.append("claim c").append((char) ('a' + i)).append(" = ");
            for (int terms = below(6); terms >= 0; terms--) {
                text.append(1 + below(99)).append(" of ").append(1 + below(99)).append(" h").append((char) ('a' + below(heirs)))
                    .append(terms == 0 ? ";" : "+");
            }
        }
        return text.toString();
    }

    private static final String[] NAMES = {"wa", "wb", "ha", "hb", "ca", "cb", "hz"};
    private static final String[] NUMBERS = {"0", "1", "9", "10", "99", "100", "999", "1000", "9999", "10000"};

    /** Another name or number in place of one: mostly a fault of meaning. */
    private String otherWord(String text) {
        String[] parts = text.split("\\b");
        for (int tries = 0; tries < 200 && parts.length > 0; tries++) {
            int at = below(parts.length);
            if (parts[at].matches("[0-9]+")) {
                parts[at] = NUMBERS[below(NUMBERS.length)];
                break;
            }
            if (parts[at].matches("[whc][a-h]")) {
                parts[at] = NAMES[below(NAMES.length)];
                break;
            }
        }
        return String.join("", parts);
    }

    private String broken(String text) {
        if (below(2) == 0) {
            return otherWord(below(2) == 0 ? otherWord(text) : text);
        }
        StringBuilder b = new StringBuilder(text);
        for (int i = below(3); i >= 0; i--) {
            int at = below(b.length() + 1);
            switch (below(5)) {
                case 0 -> b.insert(at, (char) below(256));
                case 1 -> b.delete(at, Math.min(b.length(), at + 1 + below(3)));
                case 2 -> b.insert(at, " " + PIECES[below(PIECES.length)] + " ");
                case 3 -> b.setLength(at);
                default -> {
                    int from = below(b.length() + 1);
                    String copy = b.substring(from, Math.min(b.length(), from + below(60)));
                    for (int times = below(2) == 0 ? 1 : 8; times > 0; times--) {
                        b.insert(at, copy);
                    }
                }
            }
        }
        return b.toString();
    }

    // ---- calls ----------------------------------------------------------------------------------

    private void due(String call, long got, long want) {
        calls++;
        CHECK.due("run " + run + ": " + call, got, want);
    }

    private void due(String call, boolean got, boolean want) {
        calls++;
        CHECK.due("run " + run + ": " + call, got, want);
    }

    private int heir() {
        return below(12) == 0 ? pick(-1, -2, 8, 1000000000, Integer.MIN_VALUE, Integer.MAX_VALUE) : below(Math.max(1, oracle.count(1)));
    }

    private int water() {
        return below(10) == 0 ? pick(-1, -2, 5, 6, Integer.MAX_VALUE, Integer.MIN_VALUE) : below(5);
    }

    private void one() {
        switch (below(20)) {
            case 0, 1 -> reading();
            case 2 -> {
                int n = pick(0, 1, 1, 2, 3, 5, 200, 201, -1, Integer.MIN_VALUE);
                due("run(" + n + ")", sea.run(n), oracle.run(n));
            }
            case 3, 4, 5 -> done();
            case 6, 7 -> wouldBe();
            case 8 -> absence();
            case 9 -> mightWin();
            case 10 -> asking();
            case 11, 12 -> thimble();
            case 13, 14 -> telling();
            case 15 -> slots();
            default -> reading();
        }
    }

    private void reading() {
        int h = heir();
        int w = water();
        for (int what = -1; what <= 6; what++) {
            due("heir(" + h + ", " + what + ")", sea.heir(h, what), oracle.heir(h, what));
        }
        due("drops(" + h + ", " + w + ")", sea.drops(h, w), oracle.drops(h, w));
        due("drops(-1, " + w + ")", sea.drops(-1, w), oracle.drops(-1, w));
        due("drops(" + h + ", -1)", sea.drops(h, -1), oracle.drops(h, -1));
        due("salt()", sea.salt(), oracle.salt());
        due("owns(" + h + ", false)", sea.owns(h, false), oracle.owns(h, false));
        due("owns(" + h + ", true)", sea.owns(h, true), oracle.owns(h, true));
        int c = pick(-1, 0, 1, 2, 3, 4, 5, 6, Integer.MAX_VALUE);
        due("claim(" + c + ", false)", sea.claim(c, false), oracle.claim(c, false));
        due("claim(" + c + ", true)", sea.claim(c, true), oracle.claim(c, true));
        due("ranked(" + h + ")", sea.ranked(h), oracle.ranked(h));
        int s = pick(-1, 0, 1, 2, 3, 4, 11, 15, 16, Integer.MIN_VALUE);
        due("tells(" + s + ")", sea.tells(s), oracle.tells(s));
        for (int what = -1; what <= 13; what++) {
            due("count(" + what + ")", sea.count(what), oracle.count(what));
        }
    }

    private void done() {
        int h = heir();
        int o = heir();
        switch (below(5)) {
            case 0 -> due("merge(" + h + ", " + o + ")", sea.merge(h, o), oracle.merge(h, o));
            case 1 -> {
                int q = pick(1, 2, 3, 7, 98, 99, 100, 0, -1);
                int p = below(5) == 0 ? pick(-1, q + 1, q, Integer.MAX_VALUE) : below(Math.max(1, q + 1));
                due("split(" + h + ", " + o + ", " + p + ", " + q + ")", sea.split(h, o, p, q), oracle.split(h, o, p, q));
            }
            case 2 -> {
                int all = oracle.count(5);
                int n = below(4) == 0 ? pick(0, -1, all, all + 1, Integer.MAX_VALUE) : 1 + below(Math.max(1, all));
                due("spoon(" + n + ")", sea.spoon(n), oracle.spoon(n));
            }
            case 3 -> {
                for (int i = below(3) == 0 ? 33 : 1; i > 0; i--) {
                    due("undo()", sea.undo(), oracle.undo());
                }
            }
            default -> {
                for (int i = below(4) == 0 ? 35 : 2; i > 0; i--) {
                    due("run(1)", sea.run(1), oracle.run(1));
                }
            }
        }
    }

    private void wouldBe() {
        int n = pick(-1, 0, 1, 10, 50, 100, 999, 1000, oracle.count(5) + below(30), Integer.MAX_VALUE, Integer.MIN_VALUE);
        due("enough(" + n + ")", sea.enough(n), oracle.enough(n));
        int t = pick(-1, 0, 1, 100, 3000, 60000, oracle.count(12), oracle.count(12) + 1, 1000000000, Integer.MAX_VALUE);
        due("salty(" + t + ")", sea.salty(t), oracle.salty(t));
        int q = pick(0, 1, 2, 3, 4, 5, 10, 99, 100);
        int p = below(6) == 0 ? pick(0, -1, q + 1, q) : 1 + below(Math.max(1, q));
        for (int what = -1; what <= 2; what++) {
            due("crossed(" + p + ", " + q + ", " + what + ")", sea.crossed(p, q, what), oracle.crossed(p, q, what));
        }
    }

    private void absence() {
        int h = heir();
        int n = pick(-1, 0, 1, 2, 3, 10, 200, 201);
        int b = below(3) == 0 ? -1 : heir();
        due("without(" + h + ", " + n + ", " + b + ")", sea.without(h, n, b), oracle.without(h, n, b));
    }

    private void mightWin() {
        int h = heir();
        due("league()", sea.league(), oracle.league());
        due("power(" + h + ")", sea.power(h), oracle.power(h));
    }

    private void asking() {
        int n = below(8) == 0 ? pick(-1, 0, 999, 1000, 160) : 1 + below(60);
        if (n == 999 || n == 160) {
            // The Oracle tries all gifts: too slow for so many unless they can't be had.
            n = oracle.count(1) > 4 ? 100 : n;
        }
        for (int what = -1; what <= 2; what++) {
            due("asked(" + n + ", " + what + ")", sea.asked(n, what), oracle.asked(n, what));
        }
        for (int h = -1; h <= 8; h++) {
            due("gives(" + n + ", " + h + ")", sea.gives(n, h), oracle.gives(n, h));
        }
    }

    private void thimble() {
        int n = below(10) == 0 ? pick(-1, 61, 60, Integer.MAX_VALUE) : below(14);
        if (n == 60 && oracle.count(0) > 3) {
            n = 13;
        }
        int salt = below(12) == 0 ? pick(-1, 100000, Integer.MAX_VALUE, Integer.MIN_VALUE) : below(200);
        int colour = below(12) == 0 ? pick(-1, 100000, Integer.MAX_VALUE, Integer.MIN_VALUE) : below(60);
        if (below(2) == 0 && n >= 0 && n <= 60) {
            // of what there is for certain
            int[] sums = oracle.sumsOf(n, random);
            salt = sums[0];
            colour = sums[1];
        }
        String of = "(" + n + ", " + salt + ", " + colour;
        due("thimble" + of + ")", sea.thimble(n, salt, colour), oracle.thimble(n, salt, colour));
        due("surely" + of + ")", sea.surely(n, salt, colour), oracle.surely(n, salt, colour));
        for (int w = -1; w <= 5; w++) {
            due("firstRow" + of + ", " + w + ")", sea.firstRow(n, salt, colour, w), oracle.firstRow(n, salt, colour, w));
        }
    }

    private void telling() {
        for (int i = below(4); i > 0; i--) {
            int week = below(15) == 0 ? pick(-1, 100, Integer.MAX_VALUE, 25) : below(12);
            int level = below(15) == 0 ? pick(-1, 9999, 10000, 0) : oracle.likelyLevel(week, random);
            due("tell(" + week + ", " + level + ")", sea.tell(week, level), oracle.tell(week, level));
        }
        int size = oracle.count(10);
        int k = below(8) == 0 ? pick(-1, size + 1, Integer.MAX_VALUE, Integer.MIN_VALUE) : below(size + 1);
        due("forged(" + k + ")", sea.forged(k), oracle.forged(k));
        int all = oracle.explains(k, -1);
        due("explains(" + k + ", -1)", sea.explains(k, -1), all);
        for (int i : new int[] {-2, 0, 1, all - 1, all, Integer.MAX_VALUE, Integer.MIN_VALUE}) {
            due("explains(" + k + ", " + i + ")", sea.explains(k, i), oracle.explains(k, i));
        }
        if (below(6) == 0) {
            due("forget()", sea.forget(), oracle.forget());
        }
    }

    private void slots() {
        int slot = pick(0, 1, 2, 3, -1, Integer.MAX_VALUE);
        due("hold(" + slot + ")", sea.hold(slot), oracle.hold(slot));
        slot = pick(0, 1, 2, 3, -1, Integer.MIN_VALUE);
        if (below(2) == 0) {
            due("restore(" + slot + ")", sea.restore(slot), oracle.restore(slot));
        }
    }
}
