/** Promises 14 to 17, 33 and 34: merge, split, spoon, undo, hold, restore. */
public final class DoingTest {
    private static final Check CHECK = new Check("DoingTest");
    private static final String TEXT = "water a 3 1; water b 5 2; heir x 2 1 1 1; heir y 3 1 1 1; heir z 4 1 1 1;"
        + "sends x a = 7; sends x b = 5; sends y b = 9; basin 18;";

    public static void main(String[] args) {
        merging();
        splitting();
        spooning();
        undoing();
        holding();
        CHECK.end();
    }

    private static void merging() {
        ThimbleSea sea = Check.sea(TEXT);
        sea.run(1);
        for (int[] pair : new int[][] {{0, 0}, {0, 3}, {3, 0}, {-1, 0}, {0, -1}, {Integer.MAX_VALUE, 0}, {0, Integer.MIN_VALUE}}) {
            CHECK.due("merge(" + pair[0] + ", " + pair[1] + ")", sea.merge(pair[0], pair[1]), -1);
        }
        CHECK.due("count(9)", sea.count(9), 1);
        CHECK.due("heir(1, 1)", sea.heir(1, 1), 3);
        CHECK.due("merge(1, 0)", sea.merge(1, 0), 6);
        CHECK.due("count(9)", sea.count(9), 2);
        CHECK.due("drops(0, 0)", sea.drops(0, 0), 7);
        CHECK.due("drops(0, 1)", sea.drops(0, 1), 11);
        CHECK.due("drops(1, -1)", sea.drops(1, -1), 0);
        CHECK.due("heir(0, 1)", sea.heir(0, 1), 3);
        CHECK.due("heir(1, 1)", sea.heir(1, 1), 0);
        CHECK.due("heir(0, 2)", sea.heir(0, 2), 5);
        CHECK.due("heir(1, 2)", sea.heir(1, 2), 0);
        CHECK.due("heir(0, 3) stays", sea.heir(0, 3), 12);
        CHECK.due("heir(1, 3) stays", sea.heir(1, 3), 6);
        CHECK.due("heir(0, 4)", sea.heir(0, 4), 10);
        CHECK.due("heir(1, 4)", sea.heir(1, 4), 0);
        CHECK.due("salt() stays", sea.salt(), 21 + 55);
        CHECK.due("merge(1, 2) of nothing", sea.merge(1, 2), 0);
        CHECK.due("count(9)", sea.count(9), 3);
        CHECK.due("heir(2, 2)", sea.heir(2, 2), 4);
        sea.spoon(18);
        sea.run(1);
        CHECK.due("he goes on to send as himself", sea.heir(1, 0), 6);
        CHECK.due("undo()", sea.undo(), true);
        CHECK.due("undo()", sea.undo(), true);
        CHECK.due("undo()", sea.undo(), true);
        CHECK.due("undo() of the merge", sea.undo(), true);
        CHECK.due("heir(1, 0)", sea.heir(1, 0), 6);
        CHECK.due("heir(1, 1)", sea.heir(1, 1), 3);
        CHECK.due("heir(1, 2)", sea.heir(1, 2), 3);
    }

    private static void splitting() {
        ThimbleSea sea = Check.sea(TEXT);
        sea.run(1);
        int[][] wrong = {{0, 0, 1, 2}, {0, 3, 1, 2}, {-1, 0, 1, 2}, {0, 1, 3, 2}, {0, 1, -1, 2}, {0, 1, 0, 0}, {0, 1, 1, 100},
            {0, 1, 0, -1}, {0, 1, Integer.MIN_VALUE, 2}, {0, 1, 0, Integer.MIN_VALUE}};
        for (int[] w : wrong) {
            CHECK.due("split of no such ones", sea.split(w[0], w[1], w[2], w[3]), -1);
        }
        CHECK.due("count(9)", sea.count(9), 1);
        // 7 by 1/2 is 3, 5 by 1/2 is 2
        CHECK.due("split(0, 2, 1, 2)", sea.split(0, 2, 1, 2), 5);
        CHECK.due("drops(0, 0)", sea.drops(0, 0), 4);
        CHECK.due("drops(0, 1)", sea.drops(0, 1), 3);
        CHECK.due("drops(2, 0)", sea.drops(2, 0), 3);
        CHECK.due("drops(2, 1)", sea.drops(2, 1), 2);
        CHECK.due("heir(2, 2) stays", sea.heir(2, 2), 4);
        CHECK.due("split(0, 2, 0, 99)", sea.split(0, 2, 0, 99), 0);
        CHECK.due("count(9)", sea.count(9), 3);
        CHECK.due("split(0, 2, 99, 99)", sea.split(0, 2, 99, 99), 7);
        CHECK.due("drops(2, -1)", sea.drops(2, -1), 12);
        CHECK.due("heir(1, 1) stays", sea.heir(1, 1), 3);
        CHECK.due("split(2, 0, 1, 1)", sea.split(2, 0, 1, 1), 12);
        CHECK.due("undo()", sea.undo(), true);
        CHECK.due("split(1, 0, 2, 3)", sea.split(1, 0, 2, 3), 4);
        CHECK.due("undo()", sea.undo(), true);
        CHECK.due("drops(1, 1)", sea.drops(1, 1), 6);
    }

    private static void spooning() {
        ThimbleSea sea = Check.sea(TEXT);
        CHECK.due("spoon(1) of nothing", sea.spoon(1), -1);
        sea.run(1);
        CHECK.due("spoon(0)", sea.spoon(0), -1);
        CHECK.due("spoon(-1)", sea.spoon(-1), -1);
        CHECK.due("spoon(19)", sea.spoon(19), -1);
        CHECK.due("spoon(max)", sea.spoon(Integer.MAX_VALUE), -1);
        CHECK.due("count(9)", sea.count(9), 1);
        // 7, 5, 6 of 18, 76 of SALT; 5 go: 35/18 = 1 r 17, 25/18 = 1 r 7, 30/18 = 1 r 12: one more of the first and third
        CHECK.due("spoon(5)", sea.spoon(5), 76 * 5 / 18);
        CHECK.due("drops(0, 0)", sea.drops(0, 0), 5);
        CHECK.due("drops(0, 1)", sea.drops(0, 1), 4);
        CHECK.due("drops(1, 1)", sea.drops(1, 1), 4);
        CHECK.due("salt()", sea.salt(), 76 - 21);
        CHECK.due("count(5)", sea.count(5), 13);
        CHECK.due("spoon(13)", sea.spoon(13), 55);
        CHECK.due("salt()", sea.salt(), 0);
        CHECK.due("count(5)", sea.count(5), 0);
        CHECK.due("undo()", sea.undo(), true);
        CHECK.due("undo()", sea.undo(), true);
        CHECK.due("salt()", sea.salt(), 76);
        CHECK.due("drops(0, 0)", sea.drops(0, 0), 7);
    }

    private static void undoing() {
        ThimbleSea sea = Check.sea(TEXT);
        CHECK.due("undo() of nothing", sea.undo(), false);
        for (int i = 0; i < 33; i++) {
            sea.run(1 + i % 2);
            CHECK.due("count(9)", sea.count(9), Math.min(30, i + 1));
        }
        CHECK.due("count(4)", sea.count(4), 49);
        CHECK.due("undo()", sea.undo(), true);
        CHECK.due("count(4)", sea.count(4), 48);
        CHECK.due("undo()", sea.undo(), true);
        CHECK.due("count(4)", sea.count(4), 46);
        for (int left = 28; left > 0; left--) {
            CHECK.due("undo()", sea.undo(), true);
            CHECK.due("count(9)", sea.count(9), left - 1);
        }
        CHECK.due("count(4) behind the first three", sea.count(4), 4);
        CHECK.due("undo() of the fourth from behind", sea.undo(), false);
        CHECK.due("count(4)", sea.count(4), 4);
        sea.tell(1, 1);
        sea.run(1);
        sea.undo();
        CHECK.due("count(10) stays", sea.count(10), 1);
    }

    private static void holding() {
        ThimbleSea sea = Check.sea(TEXT);
        CHECK.due("hold(-1)", sea.hold(-1), false);
        CHECK.due("hold(3)", sea.hold(3), false);
        CHECK.due("restore(-1)", sea.restore(-1), false);
        CHECK.due("restore(3)", sea.restore(3), false);
        sea.run(1);
        CHECK.due("restore(2) of nothing", sea.restore(2), false);
        CHECK.due("count(9) stays", sea.count(9), 1);
        CHECK.due("hold(2)", sea.hold(2), true);
        CHECK.due("count(9) stays", sea.count(9), 1);
        CHECK.due("count(11)", sea.count(11), 1);
        CHECK.due("hold(2)", sea.hold(2), true);
        CHECK.due("count(11)", sea.count(11), 1);
        sea.merge(1, 0);
        sea.spoon(4);
        sea.run(3);
        sea.hold(0);
        sea.tell(5, 5);
        CHECK.due("restore(2)", sea.restore(2), true);
        CHECK.due("count(4)", sea.count(4), 1);
        CHECK.due("count(5)", sea.count(5), 18);
        CHECK.due("salt()", sea.salt(), 76);
        CHECK.due("heir(1, 2)", sea.heir(1, 2), 3);
        CHECK.due("heir(1, 0)", sea.heir(1, 0), 6);
        CHECK.due("heir(1, 1)", sea.heir(1, 1), 3);
        CHECK.due("count(9)", sea.count(9), 0);
        CHECK.due("undo()", sea.undo(), false);
        CHECK.due("count(10) stays", sea.count(10), 1);
        CHECK.due("heir(0, 3)", sea.heir(0, 3), 12);
        sea.run(1);
        CHECK.due("restore(0)", sea.restore(0), true);
        CHECK.due("count(4)", sea.count(4), 4);
        CHECK.due("heir(0, 2)", sea.heir(0, 2), 5);
        CHECK.due("restore(2) again", sea.restore(2), true);
        CHECK.due("count(4)", sea.count(4), 1);
    }
}
