/** What the document says of what would be and might be, at its bounds: promises 18 to 28. */
public final class WouldBeBoundsTest {
    private static final int MIN = Integer.MIN_VALUE;
    private static final int MAX = Integer.MAX_VALUE;
    private static final String XY = "water a 3 1; heir x 2 1 1 1; heir y 3 1 1 1; basin 9999; ";

    public static void main(String[] args) throws Exception {
        Sentences.run(WouldBeBoundsTest.class);
    }

    /** HEIRS that have so many drops now, and send no more. */
    private static ThimbleSea having(int... drops) {
        StringBuilder text = new StringBuilder("water w 1 1; basin 9999;");
        for (int i = 0; i < drops.length; i++) {
            String name = "h" + (char) ('a' + i);
            text.append("heir ").append(name).append(" 1 1 1 1; sends ").append(name).append(" w = if week < 1 then ").append(drops[i])
                .append(" else 0;");
        }
        ThimbleSea sea = Check.sea(text.toString());
        sea.run(1);
        return sea;
    }

    // ---- Promise 18 -------------------------------------------------------------------------------

    @Sentence(promise = 18, says = "ENOUGH: behind how many weeks (0 .. 200) there are so many drops for the first time.")
    static void p18_from0To200Weeks(Check c) {
        ThimbleSea sea = Check.sea(XY + "sends x a = 5;");
        c.due("enough(0)", sea.enough(0), 0);
        c.due("enough(1)", sea.enough(1), 1);
        c.due("enough(5)", sea.enough(5), 1);
        c.due("enough(6)", sea.enough(6), 2);
        c.due("enough(995)", sea.enough(995), 199);
        c.due("enough(996)", sea.enough(996), 200);
        c.due("enough(1000)", sea.enough(1000), 200);
        c.due("enough(1001)", sea.enough(1001), -2);
        sea.run(1);
        c.due("enough(5) now", sea.enough(5), 0);
        c.due("enough(6) now", sea.enough(6), 1);
        c.due("enough(1005) from now", sea.enough(1005), 200);
        c.due("enough(1006) from now", sea.enough(1006), -2);
        // for the first time: later there are fewer
        ThimbleSea less = Check.sea(XY + "sends x a = if week < 1 then 8 else 0; dry = 1;");
        c.due("enough(7), there are 7, 6, 5", less.enough(7), 1);
        c.due("enough(8): those that dry up are none behind the week", less.enough(8), -2);
    }

    @Sentence(promise = 18, says = "ENOUGH: how many weeks; -2: not; NONE: n below 0.")
    static void p18_notAndBelow0(Check c) {
        ThimbleSea sea = Check.sea(XY + "sends x a = 99; basin 50;");
        c.due("enough(50)", sea.enough(50), 1);
        c.due("enough(51)", sea.enough(51), -2);
        c.due("enough(max)", sea.enough(MAX), -2);
        c.due("enough(-1)", sea.enough(-1), -1);
        c.due("enough(-2)", sea.enough(-2), -1);
        c.due("enough(min)", sea.enough(MIN), -1);
        c.due("enough(0) of none", new ThimbleSea().enough(0), 0);
        c.due("enough(1) of none", new ThimbleSea().enough(1), -2);
    }

    @Sentence(promise = 18, says = "What would be (nothing happens):")
    static void p18_nothingHappens(Check c) {
        Unchanged.by(c, "enough(10000)", sea -> sea.enough(10000));
        Unchanged.by(c, "salty(2000000000)", sea -> sea.salty(2000000000));
        Unchanged.by(c, "crossed(1, 1, 1)", sea -> sea.crossed(1, 1, 1));
        Unchanged.by(c, "without(0, 200, 1)", sea -> sea.without(0, 200, 1));
    }

    // ---- Promise 19 -------------------------------------------------------------------------------

    @Sentence(promise = 19, says = "SALTY by t: behind how many weeks (0 .. 200) SALT times 1000 by drops, rounded down (0 without), is t or more for the first time.")
    static void p19_roundedDown(Check c) {
        // 20 of SALT by 7 drops: 2857.1; then 40 by 14
        ThimbleSea sea = Check.sea("water a 4 1; water b 0 1; heir x 2 1 1 1; basin 9999; sends x a = 5; sends x b = 2;");
        c.due("salty(0)", sea.salty(0), 0);
        c.due("salty(1)", sea.salty(1), 1);
        c.due("salty(2857)", sea.salty(2857), 1);
        c.due("salty(2858)", sea.salty(2858), -2);
        sea.run(1);
        c.due("salty(2857) now", sea.salty(2857), 0);
        c.due("salty(2858) now", sea.salty(2858), -2);
        // without drops it is 0, whatever SALT stays
        ThimbleSea dry = Check.sea("water a 4 1; heir x 2 1 1 1; sends x a = 5; dry = level;");
        c.due("salty(1) without drops", dry.salty(1), -2);
        dry.run(3);
        c.due("salt()", dry.salt(), 60);
        c.due("salty(0) without drops", dry.salty(0), 0);
        c.due("salty(1) without drops", dry.salty(1), -2);
    }

    @Sentence(promise = 19, says = "SALTY by t: behind how many weeks (0 .. 200) SALT times 1000 by drops, rounded down (0 without), is t or more for the first time.")
    static void p19_from0To200Weeks(Check c) {
        // 10 come each week, 3 are left behind each but the first: 20 by 10, 40 by 3, .. 4000 by 3
        ThimbleSea sea = Check.sea("water a 2 1; heir x 2 1 1 1; sends x a = 10; dry = if 0 < week then level - 3 else 0;");
        c.due("salty(2000)", sea.salty(2000), 1);
        c.due("salty(2001)", sea.salty(2001), 2);
        c.due("salty(13333)", sea.salty(13333), 2);
        c.due("salty(13334)", sea.salty(13334), 3);
        c.due("salty behind 199", sea.salty(3980 * 1000 / 3), 199);
        c.due("salty behind 200", sea.salty(4000 * 1000 / 3), 200);
        c.due("salty not behind 200", sea.salty(4000 * 1000 / 3 + 1), -2);
        sea.run(1);
        c.due("salty behind 200 from now", sea.salty(4020 * 1000 / 3), 200);
        c.due("salty not behind 200 from now", sea.salty(4020 * 1000 / 3 + 1), -2);
    }

    @Sentence(promise = 19, says = "SALTY; -2: not; NONE: t below 0.")
    static void p19_notAndBelow0(Check c) {
        ThimbleSea sea = Check.sea("water a 99 1; heir x 2 1 1 1; basin 9999;" + Check.times(16, "sends x a = 99;") + "dry = level - 1;");
        c.due("salty(max), SALT times 1000 is beyond 32 bits", sea.salty(MAX), 14);
        c.due("salty(-1)", sea.salty(-1), -1);
        c.due("salty(min)", sea.salty(MIN), -1);
        c.due("salty(0) of none", new ThimbleSea().salty(0), 0);
        c.due("salty(1) of none", new ThimbleSea().salty(1), -2);
        // 156816 each week, one drop stays: 13 weeks tell 2038608000, 14 weeks 2195424000, more than 32 bits have
        c.due("salty(2038608000)", sea.salty(2038608000), 13);
        c.due("salty(2038608001)", sea.salty(2038608001), 14);
        sea.run(14);
        c.due("salty(max) now", sea.salty(MAX), 0);
    }

    // ---- Promise 20 -------------------------------------------------------------------------------

    @Sentence(promise = 20, says = "CROSSED: behind how many weeks (0 .. 200) an HEIR for the first time has p of q of all drops or more")
    static void p20_pOfQOrMore(Check c) {
        // x 4; y 2, 4, 6, ..; behind 1 week 4 of 6, behind 2 weeks 4 of 8 each, behind 3 weeks 6 of 10 by y
        ThimbleSea sea = Check.sea(XY + "sends x a = if week < 1 then 4 else 0; sends y a = 2;");
        int[][] of = {{1, 99, 1, 0}, {2, 3, 1, 0}, {66, 99, 1, 0}, {67, 99, 5, 1}, {65, 98, 1, 0}, {3, 4, 6, 1}, {75, 99, 7, 1}, {98, 99, 196, 1},
            {99, 99, -2, -2}, {1, 1, -2, -2}};
        for (int[] o : of) {
            c.due("crossed(" + o[0] + ", " + o[1] + ", 0)", sea.crossed(o[0], o[1], 0), o[2]);
            c.due("crossed(" + o[0] + ", " + o[1] + ", 1)", sea.crossed(o[0], o[1], 1), o[3]);
        }
        sea.run(1);
        c.due("crossed(2, 3, 0) now", sea.crossed(2, 3, 0), 0);
        c.due("crossed(2, 3, 1) now", sea.crossed(2, 3, 1), 0);
        sea.run(1);
        c.due("crossed(1, 2, 1), two of one half", sea.crossed(1, 2, 1), 0);
        c.due("crossed(51, 99, 0)", sea.crossed(51, 99, 0), 1);
    }

    @Sentence(promise = 20, says = "CROSSED: behind how many weeks (0 .. 200) an HEIR for the first time has p of q of all drops or more")
    static void p20_from0To200Weeks(Check c) {
        ThimbleSea sea = Check.sea(XY + "sends y a = if week < 199 then 0 else 1;");
        c.due("crossed(1, 1, 0) behind 200", sea.crossed(1, 1, 0), 200);
        c.due("crossed(1, 1, 1) behind 200", sea.crossed(1, 1, 1), 1);
        ThimbleSea later = Check.sea(XY + "sends y a = if week < 200 then 0 else 1;");
        c.due("crossed(1, 1, 0) behind 201", later.crossed(1, 1, 0), -2);
        c.due("crossed(1, 1, 1) behind 201", later.crossed(1, 1, 1), -2);
        later.run(1);
        c.due("crossed(1, 1, 0) behind 200 from now", later.crossed(1, 1, 0), 200);
        later.run(199);
        c.due("crossed(1, 1, 0) behind 1", later.crossed(1, 1, 0), 1);
        later.run(1);
        c.due("crossed(1, 1, 0) now", later.crossed(1, 1, 0), 0);
    }

    @Sentence(promise = 20, says = "(of one week the one of the least RANK; none without drops).")
    static void p20_leastRankNoneWithoutDrops(Check c) {
        ThimbleSea sea = having(2, 5, 5, 3);
        c.due("crossed(1, 99, 1)", sea.crossed(1, 99, 1), 1);
        c.due("crossed(1, 3, 1)", sea.crossed(1, 3, 1), 1);
        c.due("crossed(1, 3, 0)", sea.crossed(1, 3, 0), 0);
        c.due("crossed(34, 99, 0)", sea.crossed(34, 99, 0), -2);
        sea.merge(1, 3);
        c.due("crossed(1, 99, 1) of the one who has the most", sea.crossed(1, 99, 1), 3);
        ThimbleSea none = having(0, 0);
        c.due("crossed(1, 99, 0) without drops", none.crossed(1, 99, 0), -2);
        c.due("crossed(1, 99, 1) without drops", none.crossed(1, 99, 1), -2);
        c.due("crossed(1, 99, 0) of nobody", new ThimbleSea().crossed(1, 99, 0), -2);
        ThimbleSea dry = having(9, 1);
        dry.spoon(10);
        c.due("crossed(1, 99, 0) of none left", dry.crossed(1, 99, 0), -2);
    }

    @Sentence(promise = 20, says = "CROSSED: what 0 how many weeks, 1 the HEIR; -2: not; NONE: no such ones (q 1 .. 99, p 1 .. q).")
    static void p20_noSuchOnes(Check c) {
        int[][] wrong = {{0, 1, 0}, {0, 99, 1}, {-1, 2, 0}, {2, 1, 0}, {100, 99, 0}, {1, 0, 0}, {0, 0, 0}, {1, 100, 0}, {100, 100, 0}, {1, -1, 0},
            {-1, -1, 0}, {-2, -1, 0}, {1, 2, 2}, {1, 2, -1}, {1, 2, -2}, {1, 2, MIN}, {1, 2, MAX}, {MIN, MIN, 0}, {MAX, MAX, 0}, {1, MAX, 0},
            {1, MIN, 0}, {MIN, 2, 0}, {MAX, 2, 0}};
        for (int[] w : wrong) {
            String of = w[0] + ", " + w[1] + ", " + w[2] + ")";
            c.due("crossed(" + of, having(3, 1).crossed(w[0], w[1], w[2]), -1);
            c.due("crossed(" + of + " of none", new ThimbleSea().crossed(w[0], w[1], w[2]), -1);
        }
        ThimbleSea sea = having(3, 1);
        c.due("crossed(1, 1, 0)", sea.crossed(1, 1, 0), -2);
        c.due("crossed(99, 99, 0)", sea.crossed(99, 99, 0), -2);
        c.due("crossed(1, 99, 0)", sea.crossed(1, 99, 0), 0);
        c.due("crossed(3, 4, 0)", sea.crossed(3, 4, 0), 0);
        c.due("crossed(75, 99, 0)", sea.crossed(75, 99, 0), -2);
    }

    // ---- Promise 21 -------------------------------------------------------------------------------

    @Sentence(promise = 21, says = "MIGHT, by drops now: a set of HEIRS WINS if it has more than half of all drops.")
    static void p21_moreThanHalf(Check c) {
        c.due("league() of 2 and 2", having(2, 2).league(), 3);
        c.due("league() of 3 and 2", having(3, 2).league(), 1);
        c.due("league() of 2 and 3", having(2, 3).league(), 2);
        c.due("league() of 2, 1, 1", having(2, 1, 1).league(), 3);
        c.due("league() of 3, 1, 1", having(3, 1, 1).league(), 1);
        c.due("league() of 1", having(1).league(), 1);
        c.due("league() of 49, 50 and 1", having(49, 50, 1).league(), 3);
        c.due("league() of 49, 51 and 1", having(49, 51, 1).league(), 2);
        c.due("power(0) of 2 and 2", having(2, 2).power(0), 1);
        c.due("power(1) of 3 and 2", having(3, 2).power(1), 0);
    }

    @Sentence(promise = 21, says = "LEAGUE: the fewest HEIRS that WIN; of alike ones the least bits.")
    static void p21_theFewestOfAlikeOnesTheLeastBits(Check c) {
        c.due("league() of 1, 4, 1, 4", having(1, 4, 1, 4).league(), 10);
        c.due("league() of 1, 1, 1", having(1, 1, 1).league(), 3);
        c.due("league() of 0, 1, 1, 1", having(0, 1, 1, 1).league(), 6);
        c.due("league() of 1, 2, 2, 5: three ahead of all", having(2, 2, 2, 6).league(), 9);
        c.due("league() of 2, 2, 2, 7", having(2, 2, 2, 7).league(), 8);
        c.due("league() of 3, 3, 3, 4", having(3, 3, 3, 4).league(), 9);
        c.due("league() of eight alike", having(9, 9, 9, 9, 9, 9, 9, 9).league(), 31);
        c.due("league() of the last of eight", having(1, 1, 1, 1, 1, 1, 1, 8).league(), 128);
        c.due("league() of the last of eight and one", having(1, 1, 1, 1, 1, 1, 1, 7).league(), 129);
    }

    @Sentence(promise = 21, says = "LEAGUE (bits); -2: none WINS.")
    static void p21_noneWins(Check c) {
        c.due("league() without drops", having(0, 0).league(), -2);
        c.due("league() of nobody", new ThimbleSea().league(), -2);
        ThimbleSea sea = having(5, 3);
        c.due("league()", sea.league(), 1);
        sea.spoon(8);
        c.due("league() of none left", sea.league(), -2);
        c.due("power(0) of none left", sea.power(0), 0);
        // by drops now: not by SHARES, nor by what was sent
        sea.undo();
        sea.merge(0, 1);
        c.due("league() of merged ones", sea.league(), 2);
        c.due("power(0) of merged ones", sea.power(0), 0);
        c.due("power(1) of merged ones", sea.power(1), 2);
    }

    // ---- Promise 22 -------------------------------------------------------------------------------

    @Sentence(promise = 22, says = "POWER of an HEIR: in how many sets that WIN he is one without whom they don't.")
    static void p22_withoutWhomTheyDont(Check c) {
        int[][] of = {{3, 2, 2}, {2, 1, 1}, {4, 1, 1}, {0, 1, 0}, {1, 1, 1, 1}, {3, 3, 2, 1}};
        int[][] want = {{2, 2, 2}, {3, 1, 1}, {4, 0, 0}, {0, 4, 0}, {3, 3, 3, 3}, {4, 4, 4, 0}};
        for (int i = 0; i < of.length; i++) {
            ThimbleSea sea = having(of[i]);
            for (int heir = 0; heir < of[i].length; heir++) {
                c.due("power(" + heir + "), " + i, sea.power(heir), want[i][heir]);
            }
        }
        ThimbleSea eight = having(9, 9, 9, 9, 9, 9, 9, 9);
        c.due("power(0) of eight alike", eight.power(0), 35);
        c.due("power(7) of eight alike", eight.power(7), 35);
        c.due("power(7) of all", having(0, 0, 0, 0, 0, 0, 0, 1).power(7), 128);
        c.due("power(6) of none", having(0, 0, 0, 0, 0, 0, 0, 1).power(6), 0);
    }

    @Sentence(promise = 22, says = "POWER; NONE: no such HEIR.")
    static void p22_noSuchHeir(Check c) {
        ThimbleSea eight = having(1, 0, 0, 0, 0, 0, 0, 0);
        c.due("power(0)", eight.power(0), 128);
        c.due("power(7)", eight.power(7), 0);
        for (int no : new int[] {8, 32, -1, -2, MIN, MAX}) {
            c.due("power(" + no + ")", eight.power(no), -1);
        }
        c.due("power(2) of two", having(1, 1).power(2), -1);
        c.due("power(0) of nobody", new ThimbleSea().power(0), -1);
    }

    // ---- Promise 23 -------------------------------------------------------------------------------

    @Sentence(promise = 23, says = "WITHOUT an HEIR, for n weeks from now (all his SENDS tell 0): how many drops less there are then; how many more HEIR b has by it.")
    static void p23_allHisSendsTell0(Check c) {
        ThimbleSea sea = Check.sea("water a 3 1; heir x 2 1 1 1; heir y 1 1 1 1; heir z 1 1 1 1; sends x a = 7; sends x a = 2; sends y a = 5; basin 10;");
        // with x: 9 and 1 (4 are ISLAND); without: 5, 10
        c.due("without(0, 1, -1)", sea.without(0, 1, -1), 5);
        c.due("without(0, 2, -1)", sea.without(0, 2, -1), 0);
        c.due("without(0, 1, 1)", sea.without(0, 1, 1), 4);
        c.due("without(0, 2, 1)", sea.without(0, 2, 1), 9);
        c.due("without(0, 2, 0), himself", sea.without(0, 2, 0), -9);
        c.due("without(0, 1, 2)", sea.without(0, 1, 2), 0);
        c.due("without(2, 200, -1), who sends nothing", sea.without(2, 200, -1), 0);
        // more there may be without one
        ThimbleSea more = Check.sea("water a 3 1; heir x 2 1 1 1; heir y 1 1 1 1; sends x a = 3; sends y a = if level < 1 then 50 else 1;");
        c.due("without(0, 1, -1) of more", more.without(0, 1, -1), -46);
        c.due("without(0, 1, 1) of more", more.without(0, 1, 1), 49);
        more.run(1);
        c.due("without(0, 1, -1) from now", more.without(0, 1, -1), 3);
        c.due("without(0, 1, 0) from now", more.without(0, 1, 0), -3);
    }

    @Sentence(promise = 23, says = "WITHOUT an HEIR, n weeks (1 .. 200): how many less (b NONE); how many more b has; -1000000: no such ones.")
    static void p23_from1To200Weeks(Check c) {
        ThimbleSea sea = Check.sea(XY + "sends x a = 1; sends y a = 2;");
        for (int n : new int[] {1, 2, 199, 200}) {
            c.due("without(0, " + n + ", -1)", sea.without(0, n, -1), n);
            c.due("without(1, " + n + ", -1)", sea.without(1, n, -1), 2 * n);
            c.due("without(1, " + n + ", 1)", sea.without(1, n, 1), -2 * n);
            c.due("without(1, " + n + ", 0)", sea.without(1, n, 0), 0);
        }
    }

    @Sentence(promise = 23, says = "WITHOUT an HEIR, n weeks (1 .. 200): how many less (b NONE); how many more b has; -1000000: no such ones.")
    static void p23_noSuchOnes(Check c) {
        int[][] wrong = {{2, 1, 0}, {2, 1, -1}, {-1, 1, 0}, {-1, 1, -1}, {-2, 1, 0}, {0, 0, 0}, {0, 0, -1}, {0, 201, 0}, {0, 201, -1}, {0, -1, -1},
            {0, 1, 2}, {0, 1, -2}, {0, 1, MIN}, {0, 1, MAX}, {MAX, 1, 1}, {MIN, 1, 1}, {0, MIN, 1}, {0, MAX, -1}};
        ThimbleSea sea = Check.sea(XY + "sends x a = 1; sends y a = 2;");
        for (int[] w : wrong) {
            c.due("without(" + w[0] + ", " + w[1] + ", " + w[2] + ")", sea.without(w[0], w[1], w[2]), -1000000);
        }
        ThimbleSea eight = having(1, 1, 1, 1, 1, 1, 1, 1);
        c.due("without(7, 1, 7) of eight", eight.without(7, 1, 7), 0);
        c.due("without(8, 1, -1) of eight", eight.without(8, 1, -1), -1000000);
        c.due("without(0, 1, 8) of eight", eight.without(0, 1, 8), -1000000);
        c.due("without(0, 1, -1) of nobody", new ThimbleSea().without(0, 1, -1), -1000000);
    }

    // ---- Promise 24 -------------------------------------------------------------------------------

    private static void asked(Check c, String heirs, int n, int sum, int bits, int... gives) {
        ThimbleSea sea = Check.sea(heirs);
        c.due("asked(" + n + ", 0) of " + heirs, sea.asked(n, 0), sum);
        c.due("asked(" + n + ", 1) of " + heirs, sea.asked(n, 1), bits);
        for (int heir = 0; heir < gives.length; heir++) {
            c.due("gives(" + n + ", " + heir + ") of " + heirs, sea.gives(n, heir), gives[heir]);
        }
    }

    @Sentence(promise = 24, says = "ASKED: whom to ask for n drops (1 .. 999) more, of each HEIR no more than MOST, each drop at his PRICE, and, if any, his FEE once: the least sum;")
    static void p24_theLeastSum(Check c) {
        // SHARE, PRICE, FEE, MOST
        String one = "heir a 1 7 20 10;";
        asked(c, one, 1, 27, 1, 1);
        asked(c, one, 10, 90, 1, 10);
        asked(c, one, 11, -2, -2, -2);
        asked(c, "heir a 1 0 0 1;", 1, 0, 1, 1);
        asked(c, "heir a 1 5 0 0;", 1, -2, -2, -2);
        String two = "heir a 1 5 0 10; heir b 1 2 30 10;";
        asked(c, two, 1, 5, 1, 1, 0);
        asked(c, two, 9, 45, 1, 9, 0);
        // 10 by a or by b are 50; from 11 on both are asked
        asked(c, two, 10, 50, 1, 10, 0);
        asked(c, two, 11, 55, 3, 1, 10);
        asked(c, two, 20, 100, 3, 10, 10);
        asked(c, two, 21, -2, -2, -2, -2);
        asked(c, "heir a 1 5 1 10; heir b 1 2 30 10;", 10, 50, 2, 0, 10);
        asked(c, "heir a 1 5 0 10; heir b 1 2 31 10;", 10, 50, 1, 10, 0);
        // a FEE that is too much though the drops are cheap
        asked(c, "heir a 1 0 999 999; heir b 1 1 0 999;", 998, 998, 2, 0, 998);
        asked(c, "heir a 1 0 999 999; heir b 1 1 0 999;", 999, 999, 1, 999, 0);
        // the MOST, 8 by 999 at 99 and 999
        asked(c, Check.times(8, "heir h# 1 99 999 999;"), 999, 999 * 99 + 999, 1, 999, 0, 0, 0, 0, 0, 0, 0);
        asked(c, Check.times(8, "heir h# 1 99 999 124;"), 992, 992 * 99 + 8 * 999, 255, 124, 124, 124, 124, 124, 124, 124, 124);
        asked(c, Check.times(8, "heir h# 1 99 999 124;"), 993, -2, -2, -2);
    }

    @Sentence(promise = 24, says = "of alike ones by the least bits of HEIRS asked;")
    static void p24_ofAlikeOnesTheLeastBits(Check c) {
        asked(c, "heir a 1 3 4 9; heir b 1 3 4 9;", 9, 31, 1, 9, 0);
        // a and b together cost as much as c alone: 3 is less than 4
        asked(c, "heir a 1 2 0 5; heir b 1 2 0 5; heir c 1 2 0 10;", 10, 20, 3, 5, 5, 0);
        // b alone ahead of a with b, and of c
        asked(c, "heir a 1 2 2 5; heir b 1 2 2 9; heir c 1 2 2 9;", 9, 20, 2, 0, 9, 0);
        // a and c (5) ahead of b and c (6), and of d (8)
        asked(c, "heir a 1 1 1 4; heir b 1 1 1 4; heir c 1 1 1 4; heir d 1 1 2 8;", 8, 10, 3, 4, 4, 0, 0);
        asked(c, "heir a 1 1 1 3; heir b 1 1 1 4; heir c 1 1 1 5; heir d 1 1 2 8;", 8, 10, 5, 3, 0, 5, 0);
        asked(c, Check.times(8, "heir h# 1 0 0 999;"), 999, 0, 1, 999, 0, 0, 0, 0, 0, 0, 0);
    }

    @Sentence(promise = 24, says = "of them each gives as much as he may, those of the least PRICE first, of one PRICE by numbers (who then gives none is not asked).")
    static void p24_thoseOfTheLeastPriceFirst(Check c) {
        asked(c, "heir a 1 5 0 10; heir b 1 3 0 10; heir c 1 4 0 10;", 25, 30 + 40 + 25, 7, 5, 10, 10);
        asked(c, "heir a 1 5 0 10; heir b 1 3 0 10; heir c 1 4 0 10;", 20, 70, 6, 0, 10, 10);
        asked(c, "heir a 1 5 0 10; heir b 1 3 0 10; heir c 1 4 0 10;", 21, 75, 7, 1, 10, 10);
        asked(c, "heir a 1 3 0 10; heir b 1 3 0 10; heir c 1 3 0 10;", 11, 33, 3, 10, 1, 0);
        asked(c, "heir a 1 3 0 10; heir b 1 2 0 4; heir c 1 3 0 10;", 16, 44, 7, 10, 4, 2);
        // who gives none is not asked: MOST 0, or nothing is left for him
        asked(c, "heir a 1 0 0 0; heir b 1 3 0 10;", 10, 30, 2, 0, 10);
        asked(c, "heir a 1 3 0 10; heir b 1 3 0 10;", 10, 30, 1, 10, 0);
        asked(c, "heir a 1 4 0 10; heir b 1 3 0 10;", 10, 30, 2, 0, 10);
    }

    @Sentence(promise = 24, says = "ASKED: what 0 the sum, 1 the HEIRS (bits); -2: not so many can be had; NONE: no such ones.")
    static void p24_noSuchOnes(Check c) {
        ThimbleSea sea = Check.sea("heir a 1 1 0 999;");
        c.due("asked(1, 0)", sea.asked(1, 0), 1);
        c.due("asked(999, 0)", sea.asked(999, 0), 999);
        c.due("asked(999, 1)", sea.asked(999, 1), 1);
        for (int n : new int[] {0, 1000, -1, MIN, MAX}) {
            c.due("asked(" + n + ", 0)", sea.asked(n, 0), -1);
            c.due("asked(" + n + ", 1)", sea.asked(n, 1), -1);
            c.due("asked(" + n + ", 0) of nobody", new ThimbleSea().asked(n, 0), -1);
        }
        for (int what : new int[] {2, -1, -2, MIN, MAX}) {
            c.due("asked(1, " + what + ")", sea.asked(1, what), -1);
            c.due("asked(1, " + what + ") of nobody", new ThimbleSea().asked(1, what), -1);
        }
        c.due("asked(1, 0) of nobody", new ThimbleSea().asked(1, 0), -2);
        c.due("asked(999, 1) of nobody", new ThimbleSea().asked(999, 1), -2);
        // the BASIN's room and the drops that are there don't count
        ThimbleSea full = Check.sea("water w 1 1; heir a 1 1 0 50; basin 1; sends a w = 9;");
        full.run(1);
        c.due("asked(50, 0) beside a full BASIN", full.asked(50, 0), 50);
        Unchanged.by(c, "asked(12, 1)", busy -> busy.asked(12, 1));
    }

    // ---- Promise 25 -------------------------------------------------------------------------------

    @Sentence(promise = 25, says = "How much an HEIR gives then; -2, NONE likewise, no such HEIR.")
    static void p25_noSuchOnes(Check c) {
        ThimbleSea sea = Check.sea("heir a 1 3 0 400; heir b 1 2 0 500;");
        c.due("gives(1, 0)", sea.gives(1, 0), 0);
        c.due("gives(1, 1)", sea.gives(1, 1), 1);
        c.due("gives(900, 0)", sea.gives(900, 0), 400);
        c.due("gives(900, 1)", sea.gives(900, 1), 500);
        c.due("gives(901, 0)", sea.gives(901, 0), -2);
        c.due("gives(999, 1)", sea.gives(999, 1), -2);
        c.due("gives(501, 0)", sea.gives(501, 0), 1);
        for (int no : new int[] {2, -1, -2, MIN, MAX}) {
            c.due("gives(1, " + no + ")", sea.gives(1, no), -1);
            c.due("gives(901, " + no + "), NONE ahead of -2", sea.gives(901, no), -1);
        }
        for (int n : new int[] {0, 1000, -1, MIN, MAX}) {
            c.due("gives(" + n + ", 0)", sea.gives(n, 0), -1);
        }
        c.due("gives(1, 0) of nobody", new ThimbleSea().gives(1, 0), -1);
        ThimbleSea eight = Check.sea(Check.times(8, "heir h# 1 0 0 1;"));
        c.due("gives(8, 7) of eight", eight.gives(8, 7), 1);
        c.due("gives(8, 8) of eight", eight.gives(8, 8), -1);
        Unchanged.by(c, "gives(12, 1)", busy -> busy.gives(12, 1));
    }

    // ---- Promises 26 to 28 ------------------------------------------------------------------------

    private static void thimble(Check c, ThimbleSea sea, int n, int salt, int colour, long rows, int surely, int... first) {
        String of = "(" + n + ", " + salt + ", " + colour;
        c.due("thimble" + of + ")", sea.thimble(n, salt, colour), rows);
        c.due("surely" + of + ")", sea.surely(n, salt, colour), surely);
        for (int water = 0; water < first.length; water++) {
            c.due("firstRow" + of + ", " + water + ")", sea.firstRow(n, salt, colour, water), first[water]);
        }
    }

    @Sentence(promise = 26, says = "THIMBLE: drops of WATERS, n (0 .. 60) in all, with so much SALT and so much COLOUR together: how many rows of numbers (one for each WATER) there are;")
    static void p26_howManyRows(Check c) {
        ThimbleSea one = Check.sea("water a 3 2;");
        thimble(c, one, 0, 0, 0, 1, 0, 0);
        thimble(c, one, 0, 1, 0, 0, 0, -2);
        thimble(c, one, 0, 0, 1, 0, 0, -2);
        thimble(c, one, 1, 3, 2, 1, 1, 1);
        thimble(c, one, 1, 2, 2, 0, 0, -2);
        thimble(c, one, 1, 4, 2, 0, 0, -2);
        thimble(c, one, 1, 3, 1, 0, 0, -2);
        thimble(c, one, 1, 3, 3, 0, 0, -2);
        thimble(c, one, 60, 180, 120, 1, 1, 60);
        thimble(c, one, 59, 180, 120, 0, 0, -2);
        ThimbleSea three = Check.sea("water a 1 1; water b 2 1; water c 3 1;");
        // 4 drops, 8 of SALT: 0 4 0, 1 2 1, 2 0 2
        thimble(c, three, 4, 8, 4, 3, 0, 0, 4, 0);
        thimble(c, three, 4, 5, 4, 1, 3, 3, 1, 0);
        thimble(c, three, 4, 4, 4, 1, 1, 4, 0, 0);
        thimble(c, three, 4, 3, 4, 0, 0, -2, -2, -2);
        thimble(c, three, 4, 12, 4, 1, 4, 0, 0, 4);
        thimble(c, three, 4, 13, 4, 0, 0, -2, -2, -2);
        ThimbleSea most = Check.sea(Check.times(5, "water w# 99 9;"));
        thimble(c, most, 60, 60 * 99, 60 * 9, 635376, 0, 0, 0, 0, 0, 60);
        thimble(c, most, 60, 60 * 99 + 1, 60 * 9, 0, 0, -2, -2, -2, -2, -2);
        thimble(c, most, 60, 60 * 99, 60 * 9 + 1, 0, 0, -2, -2, -2, -2, -2);
        thimble(c, most, 60, MAX, MAX, 0, 0, -2);
        thimble(c, most, 60, 0, 0, 0, 0, -2);
        // drops in the BASIN don't count
        thimble(c, Check.sea("water a 0 0; water b 0 0;"), 60, 0, 0, 61, 0, 0, 60);
        thimble(c, new ThimbleSea(), 0, 0, 0, 1, 0);
        thimble(c, new ThimbleSea(), 1, 0, 0, 0, 0);
        thimble(c, new ThimbleSea(), 0, 1, 0, 0, 0);
    }

    @Sentence(promise = 26, says = "THIMBLE: how many rows; -1: no such n, salt or colour below 0.")
    static void p26_noSuchN(Check c) {
        int[][] wrong = {{-1, 0, 0}, {61, 0, 0}, {61, 183, 122}, {MIN, 0, 0}, {MAX, 0, 0}, {0, -1, 0}, {0, 0, -1}, {1, MIN, 2}, {1, 3, MIN}, {-1, -1, -1}};
        for (int[] w : wrong) {
            thimble(c, Check.sea("water a 3 2;"), w[0], w[1], w[2], -1, -1, -1);
            thimble(c, new ThimbleSea(), w[0], w[1], w[2], -1, -1, -1);
        }
        thimble(c, Check.sea("water a 3 2;"), 60, 0, 0, 0, 0, -2);
        Unchanged.by(c, "thimble(60, 9, 9)", busy -> busy.thimble(60, 9, 9));
    }

    @Sentence(promise = 27, says = "SURELY: WATERS of which there is some in all of them;")
    static void p27_ofWhichThereIsSomeInAllOfThem(Check c) {
        ThimbleSea three = Check.sea("water a 1 1; water b 2 1; water c 3 1;");
        // 5 drops, 12 of SALT: 0 3 2, 1 1 3; 3 drops, 8: 0 1 2; 3 drops, 7: 0 2 1, 1 0 2; 3 drops, 6: 0 3 0, 1 1 1
        c.due("surely(5, 12, 5)", three.surely(5, 12, 5), 6);
        c.due("surely(3, 8, 3)", three.surely(3, 8, 3), 6);
        c.due("surely(3, 7, 3)", three.surely(3, 7, 3), 4);
        c.due("surely(3, 6, 3)", three.surely(3, 6, 3), 2);
        c.due("surely(4, 8, 4)", three.surely(4, 8, 4), 0);
        c.due("surely(3, 3, 3)", three.surely(3, 3, 3), 1);
        c.due("surely(3, 9, 3)", three.surely(3, 9, 3), 4);
        c.due("surely(0, 0, 0)", three.surely(0, 0, 0), 0);
        ThimbleSea five = Check.sea("water a 1 0; water b 5 0; water c 25 0; water d 99 1; water e 0 9;");
        c.due("surely of all five", five.surely(5, 130, 10), 31);
        c.due("surely of the last", five.surely(2, 0, 18), 16);
        c.due("surely of the last but one", five.surely(2, 198, 2), 8);
        // two that are alike: one stands for the other
        ThimbleSea alike = Check.sea("water a 1 1; water b 4 4; water c 4 4;");
        c.due("surely of a alone", alike.surely(2, 5, 5), 1);
        c.due("surely of neither", alike.surely(1, 4, 4), 0);
    }

    @Sentence(promise = 27, says = "SURELY (bits of WATERS; 0 without rows); NONE likewise.")
    static void p27_withoutRows(Check c) {
        ThimbleSea sea = Check.sea("water a 3 2;");
        c.due("surely(1, 3, 2)", sea.surely(1, 3, 2), 1);
        c.due("surely(1, 4, 2), without rows", sea.surely(1, 4, 2), 0);
        c.due("surely(0, 3, 2), without rows", sea.surely(0, 3, 2), 0);
        c.due("surely(60, 180, 120)", sea.surely(60, 180, 120), 1);
        c.due("surely(61, 183, 122)", sea.surely(61, 183, 122), -1);
        c.due("surely(-1, 0, 0)", sea.surely(-1, 0, 0), -1);
        c.due("surely(1, -1, 2)", sea.surely(1, -1, 2), -1);
        c.due("surely(1, 3, -1)", sea.surely(1, 3, -1), -1);
        c.due("surely(1, 0, 0) without WATERS", new ThimbleSea().surely(1, 0, 0), 0);
        Unchanged.by(c, "surely(2, 6, 2)", busy -> busy.surely(2, 6, 2));
    }

    @Sentence(promise = 28, says = "the first row: the least of WATER 0, then of WATER 1, and so on.")
    static void p28_theLeastOfWater0(Check c) {
        ThimbleSea five = Check.sea("water a 1 0; water b 1 0; water c 2 0; water d 0 0; water e 1 0;");
        // 3 drops, 3 of SALT: 0 0 0 0 3 comes ahead of 0 0 1 1 1, and of 0 1 ..
        thimble(c, five, 3, 3, 0, 10 + 3, 0, 0, 0, 0, 0, 3);
        ThimbleSea three = Check.sea("water a 2 1; water b 1 1; water c 3 1;");
        // 4 drops, 8 of SALT: 0 2 2, 2 1 1, 4 0 0; 7 of SALT: 1 2 1, 3 1 0
        thimble(c, three, 4, 8, 4, 3, 0, 0, 2, 2);
        thimble(c, three, 4, 7, 4, 2, 3, 1, 2, 1);
        thimble(c, three, 1, 2, 1, 1, 1, 1, 0, 0);
        ThimbleSea colours = Check.sea("water a 5 1; water b 5 4;");
        thimble(c, colours, 6, 30, 15, 1, 3, 3, 3);
        thimble(c, colours, 6, 30, 16, 0, 0, -2, -2);
        thimble(c, colours, 6, 30, 24, 1, 2, 0, 6);
        thimble(c, colours, 6, 30, 6, 1, 1, 6, 0);
        thimble(c, colours, 6, 30, 27, 0, 0, -2, -2);
        thimble(c, colours, 6, 30, 3, 0, 0, -2, -2);
    }

    @Sentence(promise = 28, says = "Drops of a WATER in the first row; -2: there is none; NONE: no such ones.")
    static void p28_noSuchOnes(Check c) {
        ThimbleSea sea = Check.sea("water a 3 2; water b 1 1;");
        c.due("firstRow(2, 4, 3, 0)", sea.firstRow(2, 4, 3, 0), 1);
        c.due("firstRow(2, 4, 3, 1)", sea.firstRow(2, 4, 3, 1), 1);
        c.due("firstRow(2, 5, 3, 1), there is none", sea.firstRow(2, 5, 3, 1), -2);
        for (int no : new int[] {2, 3, 5, -1, -2, MIN, MAX}) {
            c.due("firstRow(2, 4, 3, " + no + ")", sea.firstRow(2, 4, 3, no), -1);
            c.due("firstRow(2, 5, 3, " + no + "), NONE ahead of -2", sea.firstRow(2, 5, 3, no), -1);
        }
        c.due("firstRow(61, 0, 0, 0)", sea.firstRow(61, 0, 0, 0), -1);
        c.due("firstRow(-1, 0, 0, 0)", sea.firstRow(-1, 0, 0, 0), -1);
        c.due("firstRow(1, -1, 0, 0)", sea.firstRow(1, -1, 0, 0), -1);
        c.due("firstRow(1, 0, -1, 0)", sea.firstRow(1, 0, -1, 0), -1);
        c.due("firstRow(60, 60, 60, 1)", sea.firstRow(60, 60, 60, 1), 60);
        c.due("firstRow(0, 0, 0, 0)", sea.firstRow(0, 0, 0, 0), 0);
        c.due("firstRow(0, 0, 0, 0) without WATERS", new ThimbleSea().firstRow(0, 0, 0, 0), -1);
        ThimbleSea five = Check.sea(Check.times(5, "water w# 1 1;"));
        c.due("firstRow(1, 1, 1, 4) of five", five.firstRow(1, 1, 1, 4), 1);
        c.due("firstRow(1, 1, 1, 5) of five", five.firstRow(1, 1, 1, 5), -1);
        Unchanged.by(c, "firstRow(2, 6, 2, 0)", busy -> busy.firstRow(2, 6, 2, 0));
    }

    @Sentence(promise = 28, says = "Where NONE and -2 could both be told, it is NONE, if it is not told otherwise.")
    static void p28_noneAheadOfMinus2(Check c) {
        ThimbleSea none = new ThimbleSea();
        c.due("enough(-1)", none.enough(-1), -1);
        c.due("salty(-1)", none.salty(-1), -1);
        c.due("crossed(1, 1, 2)", none.crossed(1, 1, 2), -1);
        c.due("crossed(2, 1, 0)", none.crossed(2, 1, 0), -1);
        c.due("asked(1, 2)", none.asked(1, 2), -1);
        c.due("asked(1000, 0)", none.asked(1000, 0), -1);
        c.due("gives(1, 0)", none.gives(1, 0), -1);
        c.due("gives(1000, 0)", Check.sea("heir h 1 1 1 1;").gives(1000, 0), -1);
        c.due("firstRow(1, 1, 1, 0)", none.firstRow(1, 1, 1, 0), -1);
        c.due("forged(1)", none.forged(1), -1);
    }
}
