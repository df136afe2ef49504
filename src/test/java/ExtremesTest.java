import java.util.function.Supplier;

/** Every method with numbers from the edges of int, in several states: none may throw, wrong ones answer as told. */
public final class ExtremesTest {
    private static final Check CHECK = new Check("ExtremesTest");
    private static final int[] EDGES = {Integer.MIN_VALUE, -1000000, -2, -1, 0, 1, 2, 4, 5, 7, 8, 19, 20, 30, 60, 61, 99, 100, 200, 201, 999, 1000,
        9999, 10000, Integer.MAX_VALUE};

    public static void main(String[] args) {
        StringBuilder full = new StringBuilder("basin 9999; dry = lot / 9;");
        for (char w = 'a'; w < 'f'; w++) {
            full.append("water w").append(w).append(" 99 9;");
        }
        for (char h = 'a'; h < 'i'; h++) {
            full.append("heir h").append(h).append(" 99 99 999 999; sends h").append(h).append(" wa = lot * 9999 * 9999;");
        }
        String[] texts = {"", "water w 0 0;", "heir h 1 0 0 0;", "heir h 1 0 0 0; water w 1 1; sends h w = level / week; basin 1; claim c = 99 of 1 h;",
            full.toString()};
        for (String text : texts) {
            all(() -> Check.sea(text));
            all(() -> later(text));
        }
        CHECK.end();
    }

    private static ThimbleSea later(String text) {
        ThimbleSea sea = Check.sea(text);
        sea.run(3);
        sea.tell(99, 5);
        sea.tell(0, 0);
        return sea;
    }

    /** Each object is used for 512 calls at most. */
    private static void all(Supplier<ThimbleSea> making) {
        for (int a : EDGES) {
            ThimbleSea sea = making.get();
            one(sea, a);
            for (int b : EDGES) {
                two(sea, a, b);
            }
        }
        for (int a : new int[] {Integer.MIN_VALUE, -1, 0, 1, 60, Integer.MAX_VALUE}) {
            for (int b : EDGES) {
                ThimbleSea sea = making.get();
                for (int c : EDGES) {
                    three(sea, a, b, c);
                }
            }
        }
    }

    private static void least(String call, long got, long least) {
        CHECK.due(call + " is " + least + " or more", got >= least, true);
    }

    private static void one(ThimbleSea sea, int a) {
        least("back", sea.back(a > 0 ? a : -1), -1);
        least("ranked", sea.ranked(a), -1);
        least("run", sea.run(a), -1);
        least("tells", sea.tells(a), -1);
        least("spoon", sea.spoon(a), -1);
        least("enough", sea.enough(a), -2);
        least("salty", sea.salty(a), -2);
        least("power", sea.power(a), -1);
        least("forged", sea.forged(a), -2);
        least("count", sea.count(a), -1);
        CHECK.due("hold(" + a + ")", sea.hold(a), a >= 0 && a <= 2);
        CHECK.due("restore(" + a + ")", sea.restore(a), a >= 0 && a <= 2);
        least("place", sea.place(), -1);
        least("league", sea.league(), -2);
        least("salt", sea.salt(), 0);
        sea.undo();
    }

    private static void two(ThimbleSea sea, int a, int b) {
        least("heir", sea.heir(a, b), -1);
        least("drops", sea.drops(a, b), -1);
        least("owns", sea.owns(a, b > 0), -1);
        least("claim", sea.claim(a, b > 0), -1);
        least("merge", sea.merge(a, b), -1);
        least("asked", sea.asked(a, b), -2);
        least("gives", sea.gives(a, b), -2);
        least("tell", sea.tell(a, b), -1);
        least("explains", sea.explains(a, b), -1);
        sea.undo();
    }

    private static void three(ThimbleSea sea, int a, int b, int c) {
        least("crossed", sea.crossed(a, b, c), -2);
        least("without", sea.without(a, b, c), -1000000);
        least("split", sea.split(a, b, c, a), -1);
        least("split", sea.split(b, c, a, 99), -1);
        least("thimble", sea.thimble(a, b, c), -1);
        least("surely", sea.surely(a, b, c), -1);
        least("firstRow", sea.firstRow(a, b, c, a), -2);
        least("firstRow", sea.firstRow(a, b, c, 0), -2);
        sea.undo();
    }
}
