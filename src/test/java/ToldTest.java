/** Promises 29 to 32: told levels, where they can't be, whose missing thimble explains them. */
public final class ToldTest {
    private static final Check CHECK = new Check("ToldTest");
    private static final int MAX = Integer.MAX_VALUE;
    private static final String TEXT = "water a 1 1; heir x 1 1 1 1; heir y 1 1 1 1; heir z 1 1 1 1; sends x a = 3; sends y a = 5; sends x a = 1;";

    public static void main(String[] args) {
        telling();
        forging();
        explaining();
        nothingByHand();
        manyWeeks();
        CHECK.end();
    }

    private static void telling() {
        ThimbleSea sea = Check.sea(TEXT);
        int[][] wrong = {{-1, 0}, {100, 0}, {0, -1}, {0, 10000}, {MAX, MAX}, {Integer.MIN_VALUE, 5}};
        for (int[] w : wrong) {
            CHECK.due("tell(" + w[0] + ", " + w[1] + ")", sea.tell(w[0], w[1]), -1);
        }
        CHECK.due("count(10)", sea.count(10), 0);
        for (int i = 0; i < 20; i++) {
            CHECK.due("tell " + i, sea.tell(i % 2 == 0 ? 99 : 0, i % 2 == 0 ? 9999 : 0), i);
        }
        CHECK.due("a 21st", sea.tell(0, 0), -1);
        CHECK.due("count(10)", sea.count(10), 20);
        CHECK.due("forget()", sea.forget(), 20);
        CHECK.due("count(10)", sea.count(10), 0);
        CHECK.due("forget() again", sea.forget(), 0);
        CHECK.due("tell(0, 9)", sea.tell(0, 9), 0);
        CHECK.due("forged(1)", sea.forged(1), -2);
    }

    private static void forging() {
        ThimbleSea sea = Check.sea(TEXT);
        // 9, 18, 27, .. behind week 0, 1, 2, ..
        sea.tell(2, 27);
        sea.tell(1, 17);
        sea.tell(0, 8);
        sea.tell(1, 18);
        CHECK.due("forged(0)", sea.forged(0), -2);
        CHECK.due("forged(1)", sea.forged(1), -2);
        CHECK.due("forged(2)", sea.forged(2), 1);
        CHECK.due("forged(3): by number, not by week", sea.forged(3), 1);
        CHECK.due("forged(4)", sea.forged(4), 1);
        CHECK.due("forged(5)", sea.forged(5), -1);
        CHECK.due("forged(-1)", sea.forged(-1), -1);
        CHECK.due("forged(max)", sea.forged(MAX), -1);
        CHECK.due("nothing happens", sea.count(4) + sea.count(5), 0);
        sea.forget();
        CHECK.due("forged(1) of none", sea.forged(1), -1);
        sea.tell(99, 900);
        CHECK.due("forged(1) of week 99", sea.forged(1), -2);
    }

    private static void explaining() {
        ThimbleSea sea = Check.sea(TEXT);
        CHECK.due("explains(0, -1)", sea.explains(0, -1), 0);
        CHECK.due("explains(0, 0)", sea.explains(0, 0), -1);
        sea.tell(3, 32);
        // x absent once: 4 less, y: 5 less; behind week 3 there would be 36
        CHECK.due("explains(1, -1)", sea.explains(1, -1), 4);
        for (int i = 0; i < 4; i++) {
            CHECK.due("explains(1, " + i + ")", sea.explains(1, i), i);
        }
        CHECK.due("explains(1, 4)", sea.explains(1, 4), -1);
        CHECK.due("explains(1, -2)", sea.explains(1, -2), -1);
        CHECK.due("explains(1, max)", sea.explains(1, MAX), -1);
        sea.tell(1, 18);
        // so it was in week 2 or 3
        CHECK.due("explains(2, -1)", sea.explains(2, -1), 2);
        CHECK.due("explains(2, 0)", sea.explains(2, 0), 2);
        CHECK.due("explains(2, 1)", sea.explains(2, 1), 3);
        CHECK.due("explains(1, -1) still", sea.explains(1, -1), 4);
        sea.tell(1, 17);
        CHECK.due("explains(3, -1) of what can't be", sea.explains(3, -1), 0);
        CHECK.due("explains(3, 0)", sea.explains(3, 0), -1);
        CHECK.due("explains(4, -1)", sea.explains(4, -1), -1);
        CHECK.due("explains(-1, -1)", sea.explains(-1, -1), -1);
        sea.forget();
        sea.tell(1, 18);
        // all is so: z, who sends nothing, in week 0 and 1
        CHECK.due("explains(1, -1) by who sends nothing", sea.explains(1, -1), 2);
        CHECK.due("explains(1, 0)", sea.explains(1, 0), 200);
        CHECK.due("explains(1, 1)", sea.explains(1, 1), 201);
        sea.forget();
        sea.tell(0, 4);
        // by y in week 0; week 1 comes behind the last one KNOWN
        CHECK.due("explains(1, -1)", sea.explains(1, -1), 1);
        CHECK.due("explains(1, 0)", sea.explains(1, 0), 100);
        sea.tell(1, 13);
        sea.tell(0, 4);
        // the last week KNOWN is 1, though the last one told is of 0
        CHECK.due("explains(3, -1)", sea.explains(3, -1), 1);
        sea.forget();
        sea.tell(1, 13);
        sea.tell(1, 13);
        sea.tell(0, 9);
        CHECK.due("explains(3, -1) up to the greatest week", sea.explains(3, -1), 1);
        CHECK.due("explains(3, 0)", sea.explains(3, 0), 101);
    }

    private static void nothingByHand() {
        ThimbleSea sea = Check.sea(TEXT.replace("= 1", "= share"));
        sea.tell(1, 18);
        sea.run(1);
        sea.merge(0, 1);
        sea.spoon(3);
        CHECK.due("forged(1)", sea.forged(1), -2);
        CHECK.due("explains(1, -1)", sea.explains(1, -1), 2);
        CHECK.due("count(4)", sea.count(4), 1);
        CHECK.due("count(5)", sea.count(5), 6);
        CHECK.due("heir(1, 2)", sea.heir(1, 2), 2);
    }

    private static void manyWeeks() {
        StringBuilder text = new StringBuilder("water a 1 1; basin 9999; dry = lot / 100;");
        for (char name = 'a'; name < 'i'; name++) {
            text.append("heir h").append(name).append(" 1 1 1 1; sends h").append(name).append(" a = if lot < 500 then 3 else 4;");
        }
        ThimbleSea sea = Check.sea(text.toString());
        for (int i = 0; i < 50; i++) {
            sea.run(1);
        }
        int level50 = sea.count(5);
        for (int i = 0; i < 50; i++) {
            sea.run(1);
        }
        int level100 = sea.count(5);
        sea.tell(49, level50);
        sea.tell(99, level100);
        CHECK.due("forged(2)", sea.forged(2), -2);
        CHECK.due("explains(2, -1)", sea.explains(2, -1), 0);
        sea.tell(99, 9999);
        CHECK.due("forged(3)", sea.forged(3), 2);
    }
}
