/** Promises 18 to 28: what would be, sets that win, whom to ask, thimbles. */
public final class WouldBeTest {
    private static final Check CHECK = new Check("WouldBeTest");
    private static final int MIN = Integer.MIN_VALUE;
    private static final int MAX = Integer.MAX_VALUE;

    public static void main(String[] args) {
        enough();
        salty();
        crossed();
        winning();
        without();
        asking();
        thimbles();
        CHECK.end();
    }

    private static void enough() {
        ThimbleSea sea = Check.sea("water a 3 1; heir x 2 1 1 1; sends x a = 5; basin 1000;");
        CHECK.due("enough(0)", sea.enough(0), 0);
        CHECK.due("enough(5)", sea.enough(5), 1);
        CHECK.due("enough(6)", sea.enough(6), 2);
        CHECK.due("enough(1000)", sea.enough(1000), 200);
        CHECK.due("enough(1001)", sea.enough(1001), -2);
        CHECK.due("enough(max)", sea.enough(MAX), -2);
        CHECK.due("enough(-1)", sea.enough(-1), -1);
        CHECK.due("nothing happens", sea.count(5) + sea.count(4) + sea.count(9), 0);
        sea.run(3);
        CHECK.due("enough(15)", sea.enough(15), 0);
        CHECK.due("enough(16)", sea.enough(16), 1);
        CHECK.due("count(4)", sea.count(4), 3);
    }

    private static void salty() {
        // week 0: 10 drops with 20 of SALT, 8 stay; then 18 with 40, 16 stay; ...
        ThimbleSea sea = Check.sea("water a 2 1; heir x 2 1 1 1; sends x a = 10; dry = 2; basin 9999;");
        CHECK.due("salty(0)", sea.salty(0), 0);
        CHECK.due("salty(1)", sea.salty(1), 1);
        CHECK.due("salty(2500)", sea.salty(2500), 1);
        CHECK.due("salty(2501)", sea.salty(2501), -2);
        CHECK.due("salty(-1)", sea.salty(-1), -1);
        CHECK.due("salty(min)", sea.salty(MIN), -1);
        CHECK.due("nothing happens", sea.salt(), 0);
        sea = Check.sea("water a 2 1; heir x 2 1 1 1; sends x a = 10; dry = if 0 < week then level - 3 else 0;");
        CHECK.due("salty(2000)", sea.salty(2000), 1);
        CHECK.due("salty(2001)", sea.salty(2001), 2);
        CHECK.due("salty(13333)", sea.salty(13333), 2);
        CHECK.due("salty(13334)", sea.salty(13334), 3);
        CHECK.due("salty behind 200 weeks", sea.salty(4000 * 1000 / 3), 200);
        CHECK.due("salty not behind 200", sea.salty(4000 * 1000 / 3 + 1), -2);
    }

    private static void crossed() {
        ThimbleSea sea = Check.sea("water a 3 1; heir x 2 1 1 1; heir y 1 1 1 1; heir z 1 1 1 1; sends x a = if week < 1 then 4 else 0;"
            + "sends z a = 4; sends y a = 2;");
        // behind 1 week 4 2 4, behind 2 weeks 4 4 8, behind 3 weeks 4 6 12, behind 4 weeks 4 8 16
        CHECK.due("crossed(2, 5, 0)", sea.crossed(2, 5, 0), 1);
        CHECK.due("crossed(2, 5, 1)", sea.crossed(2, 5, 1), 0);
        CHECK.due("crossed(1, 2, 0)", sea.crossed(1, 2, 0), 2);
        CHECK.due("crossed(1, 2, 1)", sea.crossed(1, 2, 1), 2);
        CHECK.due("crossed(50, 99, 0)", sea.crossed(50, 99, 0), 3);
        CHECK.due("crossed(2, 3, 0)", sea.crossed(2, 3, 0), -2);
        CHECK.due("crossed(1, 1, 1)", sea.crossed(1, 1, 1), -2);
        int[][] wrong = {{0, 1, 0}, {-1, 2, 0}, {1, 0, 0}, {2, 1, 0}, {1, 100, 0}, {1, 2, 2}, {1, 2, -1}, {MIN, MIN, 0}, {MAX, MAX, 1}};
        for (int[] w : wrong) {
            CHECK.due("crossed(" + w[0] + ", " + w[1] + ", " + w[2] + ")", sea.crossed(w[0], w[1], w[2]), -1);
        }
        CHECK.due("crossed of nothing", new ThimbleSea().crossed(1, 99, 0), -2);
        ThimbleSea late = Check.sea("water a 3 1; heir x 2 1 1 1; sends x a = if week < 199 then 0 else 1;");
        CHECK.due("crossed behind 200 weeks", late.crossed(1, 1, 0), 200);
        CHECK.due("crossed by one drop", late.crossed(1, 1, 1), 0);
        late.run(199);
        CHECK.due("crossed behind one", late.crossed(1, 1, 0), 1);
        sea.run(3);
        CHECK.due("crossed(1, 2, 0) now", sea.crossed(1, 2, 0), 0);
        CHECK.due("nothing happens", sea.count(4), 3);
    }

    private static ThimbleSea having(int... drops) {
        StringBuilder text = new StringBuilder("water w 1 1; basin 9999;");
        for (int i = 0; i < drops.length; i++) {
            String name = "h" + (char) ('a' + i);
            text.append("heir ").append(name).append(" 1 1 1 1; sends ").append(name).append(" w = ").append(drops[i]).append(';');
        }
        ThimbleSea sea = Check.sea(text.toString());
        sea.run(1);
        return sea;
    }

    private static void winning() {
        ThimbleSea sea = having(3, 2, 2);
        CHECK.due("league()", sea.league(), 3);
        for (int heir = 0; heir < 3; heir++) {
            CHECK.due("power(" + heir + ")", sea.power(heir), 2);
        }
        CHECK.due("power(3)", sea.power(3), -1);
        CHECK.due("power(-1)", sea.power(-1), -1);
        CHECK.due("power(max)", sea.power(MAX), -1);
        sea = having(1, 5, 2, 1);
        CHECK.due("league() of one", sea.league(), 2);
        CHECK.due("power(1)", sea.power(1), 8);
        CHECK.due("power(0)", sea.power(0), 0);
        sea = having(2, 1, 1);
        CHECK.due("half does not win", sea.league(), 3);
        CHECK.due("power(0)", sea.power(0), 3);
        CHECK.due("power(1)", sea.power(1), 1);
        sea = having(1, 4, 1, 4);
        CHECK.due("league(): fewest ahead of least bits", sea.league(), 10);
        sea = having(0, 0);
        CHECK.due("league() without drops", sea.league(), -2);
        CHECK.due("power(0) without drops", sea.power(0), 0);
        sea = having(9, 9, 9, 9, 9, 9, 9, 9);
        CHECK.due("league() of eight", sea.league(), 31);
        CHECK.due("power(7) of eight", sea.power(7), 35);
    }

    private static void without() {
        ThimbleSea sea = Check.sea("water a 3 1; heir x 2 1 1 1; heir y 1 1 1 1; heir z 1 1 1 1; sends x a = 7; sends x a = 2; sends y a = 5;"
            + "basin 10;");
        // with x: 9 and 1 (4 are ISLAND); without: 5, 10
        CHECK.due("without(0, 1, -1)", sea.without(0, 1, -1), 5);
        CHECK.due("without(0, 2, -1)", sea.without(0, 2, -1), 0);
        CHECK.due("without(0, 1, 1)", sea.without(0, 1, 1), 4);
        CHECK.due("without(0, 2, 1)", sea.without(0, 2, 1), 9);
        CHECK.due("without(0, 2, 0)", sea.without(0, 2, 0), -9);
        CHECK.due("without(2, 200, -1)", sea.without(2, 200, -1), 0);
        CHECK.due("nothing happens", sea.count(5), 0);
        int[][] wrong = {{3, 1, 0}, {-1, 1, 0}, {0, 0, 0}, {0, 201, 0}, {0, -1, -1}, {0, 1, 3}, {0, 1, -2}, {MAX, 1, 1}, {0, MIN, 1}};
        for (int[] w : wrong) {
            CHECK.due("without(" + w[0] + ", " + w[1] + ", " + w[2] + ")", sea.without(w[0], w[1], w[2]), -1000000);
        }
        // a LAW by level: less may be more
        sea = Check.sea("water a 3 1; heir x 2 1 1 1; heir y 1 1 1 1; sends x a = 3; sends y a = if level < 1 then 50 else 1;");
        CHECK.due("without(0, 1, -1) of more", sea.without(0, 1, -1), -46);
        sea.run(1);
        CHECK.due("without(0, 1, -1) from now", sea.without(0, 1, -1), 3);
        CHECK.due("enough(100000)", sea.enough(100000), -2);
        CHECK.due("without(0, 1, -1) again", sea.without(0, 1, -1), 3);
        CHECK.due("without(0, 1, 0) again", sea.without(0, 1, 0), -3);
    }

    private static void asking() {
        // names: SHARE, PRICE, FEE, MOST
        ThimbleSea sea = Check.sea("heir a 1 5 0 10; heir b 1 2 30 10; heir c 1 5 0 10; heir d 1 0 0 0;");
        CHECK.due("asked(4, 0)", sea.asked(4, 0), 20);
        CHECK.due("asked(4, 1): least bits of alike ones", sea.asked(4, 1), 1);
        CHECK.due("asked(10, 0)", sea.asked(10, 0), 50);
        CHECK.due("asked(10, 1): a and b are alike at 10", sea.asked(10, 1), 1);
        CHECK.due("asked(11, 0)", sea.asked(11, 0), 55);
        CHECK.due("asked(11, 1): a and b", sea.asked(11, 1), 3);
        CHECK.due("gives(11, 1): the cheaper all he may", sea.gives(11, 1), 10);
        CHECK.due("gives(11, 0)", sea.gives(11, 0), 1);
        CHECK.due("gives(11, 2)", sea.gives(11, 2), 0);
        CHECK.due("asked(20, 1)", sea.asked(20, 1), 3);
        CHECK.due("asked(30, 0)", sea.asked(30, 0), 150);
        CHECK.due("asked(30, 1)", sea.asked(30, 1), 7);
        CHECK.due("gives(25, 0): of one PRICE by numbers", sea.gives(25, 0), 10);
        CHECK.due("gives(25, 2)", sea.gives(25, 2), 5);
        CHECK.due("gives(25, 3)", sea.gives(25, 3), 0);
        CHECK.due("asked(31, 0)", sea.asked(31, 0), -2);
        CHECK.due("asked(31, 1)", sea.asked(31, 1), -2);
        CHECK.due("gives(31, 0)", sea.gives(31, 0), -2);
        CHECK.due("gives(31, 4)", sea.gives(31, 4), -1);
        CHECK.due("gives(999, -1)", sea.gives(999, -1), -1);
        CHECK.due("asked(999, 2)", sea.asked(999, 2), -1);
        CHECK.due("asked(999, 0)", sea.asked(999, 0), -2);
        CHECK.due("asked(1000, 0)", sea.asked(1000, 0), -1);
        CHECK.due("asked(0, 1)", sea.asked(0, 1), -1);
        CHECK.due("asked(-1, 1)", sea.asked(-1, 1), -1);
        CHECK.due("asked(1, -1)", sea.asked(1, -1), -1);
        CHECK.due("gives(0, 0)", sea.gives(0, 0), -1);
        CHECK.due("gives(1000, 0)", sea.gives(1000, 0), -1);
        sea = Check.sea("heir a 1 99 999 999; heir b 1 99 0 998;");
        CHECK.due("asked(998, 0)", sea.asked(998, 0), 998 * 99);
        CHECK.due("asked(998, 1)", sea.asked(998, 1), 2);
        CHECK.due("asked(999, 0)", sea.asked(999, 0), 999 * 99 + 999);
        CHECK.due("asked(999, 1)", sea.asked(999, 1), 1);
        CHECK.due("gives(999, 1)", sea.gives(999, 1), 0);
        CHECK.due("gives of nobody", new ThimbleSea().gives(1, 0), -1);
    }

    private static void thimble(ThimbleSea sea, int n, int salt, int colour, long rows, int surely, int... first) {
        String of = "(" + n + ", " + salt + ", " + colour;
        CHECK.due("thimble" + of + ")", sea.thimble(n, salt, colour), rows);
        CHECK.due("surely" + of + ")", sea.surely(n, salt, colour), surely);
        for (int water = 0; water < first.length; water++) {
            CHECK.due("firstRow" + of + ", " + water + ")", sea.firstRow(n, salt, colour, water), first[water]);
        }
        CHECK.due("firstRow" + of + ", " + first.length + ")", sea.firstRow(n, salt, colour, first.length), -1);
    }

    private static void thimbles() {
        ThimbleSea none = new ThimbleSea();
        thimble(none, 0, 0, 0, 1, 0);
        thimble(none, 1, 0, 0, 0, 0);
        thimble(none, 0, 1, 0, 0, 0);
        thimble(none, -1, 0, 0, -1, -1);
        thimble(none, 61, 0, 0, -1, -1);
        thimble(none, 1, -1, 0, -1, -1);
        thimble(none, 1, 0, -1, -1, -1);
        thimble(none, MAX, MIN, MAX, -1, -1);
        ThimbleSea one = Check.sea("water a 3 2;");
        thimble(one, 4, 12, 8, 1, 1, 4);
        thimble(one, 4, 12, 7, 0, 0, -2);
        thimble(one, 0, 0, 0, 1, 0, 0);
        thimble(one, 60, 180, 120, 1, 1, 60);
        thimble(one, 60, MAX, MAX, 0, 0, -2);
        ThimbleSea three = Check.sea("water a 1 1; water b 2 1; water c 3 1;");
        // 4 drops, 8 of SALT: 0 4 0, 1 2 1, 2 0 2
        thimble(three, 4, 8, 4, 3, 0, 0, 4, 0);
        // 4 drops, 5 of SALT: 3 1 0 alone
        thimble(three, 4, 5, 4, 1, 3, 3, 1, 0);
        // 3 drops, 8 of SALT: 0 1 2 alone
        thimble(three, 3, 8, 3, 1, 6, 0, 1, 2);
        // 5 drops, 12 of SALT: 0 3 2, 1 1 3: b and c in both
        thimble(three, 5, 12, 5, 2, 6, 0, 3, 2);
        thimble(three, 5, 12, 4, 0, 0, -2, -2, -2);
        CHECK.due("firstRow first of all", three.firstRow(4, 5, 4, 0), 3);
        CHECK.due("surely first of all", three.surely(3, 8, 3), 6);
        CHECK.due("thimble of the salt before", three.thimble(3, 7, 3), 2);
        CHECK.due("thimble of the colour before", three.thimble(3, 7, 2), 0);
        CHECK.due("firstRow(4, 8, 4, -1)", three.firstRow(4, 8, 4, -1), -1);
        CHECK.due("firstRow(61, 8, 4, 0)", three.firstRow(61, 8, 4, 0), -1);
        CHECK.due("firstRow(4, -8, 4, 0)", three.firstRow(4, -8, 4, 0), -1);
        ThimbleSea alike = Check.sea("water a 0 0; water b 0 0; water c 0 0; water d 0 0; water e 0 0;");
        thimble(alike, 60, 0, 0, 635376, 0, 0, 0, 0, 0, 60);
        thimble(alike, 0, 0, 0, 1, 0, 0, 0, 0, 0, 0);
        thimble(alike, 60, 1, 0, 0, 0, -2, -2, -2, -2, -2);
        ThimbleSea colours = Check.sea("water a 5 1; water b 5 4;");
        thimble(colours, 6, 30, 15, 1, 3, 3, 3);
        thimble(colours, 6, 30, 16, 0, 0, -2, -2);
        thimble(colours, 6, 30, 24, 1, 2, 0, 6);
        thimble(colours, 6, 30, 6, 1, 1, 6, 0);
        thimble(colours, 6, 30, 27, 0, 0, -2, -2);
    }
}
