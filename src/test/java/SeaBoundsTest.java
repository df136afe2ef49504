import java.math.BigInteger;

/** What the document says of the basin, of weeks and of LAWS, at their bounds: promises 6 to 13 and 35. */
public final class SeaBoundsTest {
    private static final int MIN = Integer.MIN_VALUE;
    private static final int MAX = Integer.MAX_VALUE;
    private static final int[] FAR = {-1, -2, MIN, MAX};
    private static final String XY = "water a 3 1; water b 5 2; heir x 2 1 1 1; heir y 3 1 1 1; basin 9999; ";
    /** Fills the largest BASIN in seven weeks, 1089 drops are ISLAND then. */
    private static final String FULL = "water a 99 9; basin 9999;" + Check.times(8, "heir h# 99 1 1 1; sends h# a = 99; sends h# a = 99;");
    private static final String FIVE_BY_EIGHT = Check.times(5, "water w# 1 1;") + Check.times(8, "heir h# 1 1 1 1;");

    public static void main(String[] args) throws Exception {
        Sentences.run(SeaBoundsTest.class);
    }

    private static ThimbleSea behind(int weeks, String text) {
        ThimbleSea sea = Check.sea(text);
        for (int left = weeks; left > 0; left -= 200) {
            sea.run(Math.min(200, left));
        }
        return sea;
    }

    // ---- Promise 6 --------------------------------------------------------------------------------

    @Sentence(promise = 6, says = "Of an HEIR: what 0 his drops, 1 ISLAND, 2 SHARE, 3 how many he sent into it in all, 4 DUE, 5 RANK (from 0 on).")
    static void p06_ofAnHeir(Check c) {
        ThimbleSea sea = behind(1, XY + "basin 12; dry = 2; sends x a = 7; sends y b = 9;");
        // 7 and 5 of 12 come, 4 are ISLAND; 2 dry up: 14/12 = 1 r 2, 10/12 = 0 r 10
        int[][] want = {{6, 0, 2, 7, 4, 0}, {4, 4, 3, 5, 6, 1}};
        for (int heir = 0; heir < 2; heir++) {
            for (int what = 0; what < 6; what++) {
                c.due("heir(" + heir + ", " + what + ")", sea.heir(heir, what), want[heir][what]);
            }
        }
    }

    @Sentence(promise = 6, says = "NONE for others.")
    static void p06_noneForOthers(Check c) {
        ThimbleSea eight = behind(1, FIVE_BY_EIGHT);
        for (int what = 0; what < 6; what++) {
            c.due("heir(0, " + what + ") is there", eight.heir(0, what) >= 0, true);
            c.due("heir(7, " + what + ") is there", eight.heir(7, what) >= 0, true);
            c.due("heir(8, " + what + ")", eight.heir(8, what), -1);
            for (int far : FAR) {
                c.due("heir(" + far + ", " + what + ")", eight.heir(far, what), -1);
            }
        }
        for (int heir = 0; heir < 8; heir++) {
            c.due("heir(" + heir + ", 6)", eight.heir(heir, 6), -1);
            for (int far : FAR) {
                c.due("heir(" + heir + ", " + far + ")", eight.heir(heir, far), -1);
            }
        }
        ThimbleSea two = Check.sea(XY);
        c.due("heir(1, 2) of two", two.heir(1, 2), 3);
        c.due("heir(2, 2) of two", two.heir(2, 2), -1);
        c.due("heir(0, 0) of nobody", new ThimbleSea().heir(0, 0), -1);
    }

    @Sentence(promise = 6, says = "3 how many he sent into it in all")
    static void p06_whatIsSentStays(Check c) {
        ThimbleSea sea = behind(1, XY + "basin 10; sends x a = 8; sends y a = 3; dry = 10;");
        c.due("heir(0, 3)", sea.heir(0, 3), 8);
        c.due("heir(1, 3), 1 is ISLAND", sea.heir(1, 3), 2);
        c.due("heir(0, 0)", sea.heir(0, 0), 0);
        sea.run(2);
        c.due("heir(0, 3) behind three weeks", sea.heir(0, 3), 24);
        c.due("heir(1, 3) behind three weeks", sea.heir(1, 3), 6);
    }

    @Sentence(promise = 6, says = "DUE of an HEIR: all drops times his SHARE by SHARES of all HEIRS, rounded down.")
    static void p06_dueRoundedDown(Check c) {
        ThimbleSea sea = Check.sea("water a 3 1; heir x 1 1 1 1; heir y 2 1 1 1; sends x a = 1;");
        int[] ofX = {0, 0, 0, 1, 1, 1, 2};
        int[] ofY = {0, 0, 1, 2, 2, 3, 4};
        for (int drops = 0; drops <= 6; drops++) {
            c.due("DUE of x with " + drops, sea.heir(0, 4), ofX[drops]);
            c.due("DUE of y with " + drops, sea.heir(1, 4), ofY[drops]);
            sea.run(1);
        }
        sea.merge(0, 1);
        c.due("DUE of SHARE 0", sea.heir(0, 4), 0);
        c.due("DUE of all SHARES", sea.heir(1, 4), 7);
        ThimbleSea one = Check.sea("water a 3 1; heir x 1 1 1 1; sends x a = 9;");
        c.due("DUE of the one SHARE without drops", one.heir(0, 4), 0);
        one.run(1);
        c.due("DUE of the one SHARE", one.heir(0, 4), 9);
    }

    @Sentence(promise = 6, says = "DUE of an HEIR: all drops times his SHARE by SHARES of all HEIRS, rounded down.")
    static void p06_dueOfTheMostDropsAndShares(Check c) {
        ThimbleSea sea = behind(7, FULL);
        c.due("count(5)", sea.count(5), 9999);
        c.due("DUE of one of eight", sea.heir(7, 4), 9999 / 8);
        for (int heir = 1; heir < 8; heir++) {
            sea.merge(heir, 0);
        }
        c.due("SHARE of all", sea.heir(0, 2), 8 * 99);
        c.due("DUE of all", sea.heir(0, 4), 9999);
        c.due("DUE of none", sea.heir(7, 4), 0);
    }

    // ---- Promise 7 --------------------------------------------------------------------------------

    @Sentence(promise = 7, says = "Drops of an HEIR of a WATER (NONE each: of all); NONE: no such ones.")
    static void p07_noneEachOfAll(Check c) {
        ThimbleSea sea = behind(1, FIVE_BY_EIGHT + "sends ha wa = 1; sends ha we = 2; sends hh wa = 4; sends hh we = 8; sends hd wc = 16;");
        int[][] want = {{0, 0, 1}, {0, 4, 2}, {7, 0, 4}, {7, 4, 8}, {3, 2, 16}, {0, -1, 3}, {7, -1, 12}, {-1, 0, 5}, {-1, 4, 10},
            {-1, 2, 16}, {-1, -1, 31}, {3, -1, 16}, {4, -1, 0}, {-1, 1, 0}, {4, 4, 0}};
        for (int[] w : want) {
            c.due("drops(" + w[0] + ", " + w[1] + ")", sea.drops(w[0], w[1]), w[2]);
        }
    }

    @Sentence(promise = 7, says = "Drops of an HEIR of a WATER (NONE each: of all); NONE: no such ones.")
    static void p07_noSuchOnes(Check c) {
        ThimbleSea sea = behind(1, FIVE_BY_EIGHT + "sends ha wa = 1;");
        for (int no : new int[] {8, 9, -2, MIN, MAX}) {
            c.due("drops(" + no + ", 0)", sea.drops(no, 0), -1);
            c.due("drops(" + no + ", -1)", sea.drops(no, -1), -1);
        }
        for (int no : new int[] {5, 6, -2, MIN, MAX}) {
            c.due("drops(0, " + no + ")", sea.drops(0, no), -1);
            c.due("drops(-1, " + no + ")", sea.drops(-1, no), -1);
        }
        c.due("drops(8, 5)", sea.drops(8, 5), -1);
        ThimbleSea two = Check.sea(XY);
        c.due("drops(1, 1) of two", two.drops(1, 1), 0);
        c.due("drops(2, 1) of two", two.drops(2, 1), -1);
        c.due("drops(1, 2) of two", two.drops(1, 2), -1);
        ThimbleSea none = new ThimbleSea();
        c.due("drops(-1, -1) of none", none.drops(-1, -1), 0);
        c.due("drops(0, -1) of none", none.drops(0, -1), -1);
        c.due("drops(-1, 0) of none", none.drops(-1, 0), -1);
    }

    // ---- Promise 8 --------------------------------------------------------------------------------

    @Sentence(promise = 8, says = "All SALT.")
    static void p08_allSalt(Check c) {
        ThimbleSea sea = Check.sea("water a 99 1; water b 0 1; heir x 1 1 1 1; basin 3; sends x b = 1; sends x a = week; dry = 1;");
        c.due("salt() of none", sea.salt(), 0);
        sea.run(1);
        c.due("salt() of a WATER without SALT", sea.salt(), 0);
        sea.run(1);
        c.due("salt() of one drop", sea.salt(), 99);
        sea.run(1);
        // 1 drop is there, 1 of b and 1 of a come, 1 of a is ISLAND, which brings none; that which dries up leaves its SALT
        c.due("salt() of two drops", sea.salt(), 198);
        c.due("count(7)", sea.count(7), 1);
        c.due("count(5)", sea.count(5), 2);
    }

    @Sentence(promise = 8, says = "Each drop is its HEIR's, of its WATER, and brings the WATER's SALT, which stays in the BASIN (1000000000 at most; what would be more is lost).")
    static void p08_1000000000AtMost(Check c) {
        // 16 times 99 drops of 99 each week: 156816
        ThimbleSea sea = behind(6376, FULL + "dry = level;");
        c.due("salt() below", sea.salt(), 999858816);
        sea.run(1);
        c.due("salt() at the most", sea.salt(), 1000000000);
        sea.run(1);
        c.due("salt() stays at the most", sea.salt(), 1000000000);
        c.due("heir(7, 3), drops come in all the same", sea.heir(7, 3), 6378 * 198);
        sea.undo();
        sea.undo();
        c.due("salt() undone", sea.salt(), 999858816);
    }

    @Sentence(promise = 8, says = "1000000000 at most; what would be more is lost")
    static void p08_oneDropAtTheMost(Check c) {
        // 6376 weeks as above, then 1426 drops more: 141184 lack, of 99 each 1426 bring 141174, one brings 10 of 99
        ThimbleSea sea = behind(6376, FULL.replace("= 99", "= if week < 6376 then 99 else 0")
            .replaceFirst("sends hh a = if week < 6376 then 99 else 0;$", "sends hh a = if week < 6376 then 99 else if week < 6390 then 99 else if week < 6391 then 40 else 1;")
            + "dry = if week < 6376 then level else 0;");
        c.due("salt()", sea.salt(), 999858816);
        sea.run(15);
        c.due("salt() of 14 times 99 and 40 more", sea.salt(), 999858816 + 1426 * 99);
        c.due("count(5)", sea.count(5), 1426);
        sea.run(1);
        c.due("salt() of one more", sea.salt(), 1000000000);
        c.due("count(5)", sea.count(5), 1427);
        // what was lost is not there again: the half of it goes
        c.due("spoon(1427)", sea.spoon(1427), 1000000000);
        c.due("salt()", sea.salt(), 0);
    }

    // ---- Promise 9 --------------------------------------------------------------------------------

    @Sentence(promise = 9, says = "OWNS: drops of an HEIR by all, as a fraction that cannot be lessened (0 by 1 without drops).")
    static void p09_cannotBeLessened(Check c) {
        int[][] of = {{0, 0}, {1, 0}, {0, 1}, {1, 1}, {6, 4}, {6, 3}, {7, 13}, {12, 18}, {99, 1}, {50, 50}, {64, 32}};
        int[][] want = {{0, 1, 0, 1}, {1, 1, 0, 1}, {0, 1, 1, 1}, {1, 2, 1, 2}, {3, 5, 2, 5}, {2, 3, 1, 3}, {7, 20, 13, 20}, {2, 5, 3, 5},
            {99, 100, 1, 100}, {1, 2, 1, 2}, {2, 3, 1, 3}};
        for (int i = 0; i < of.length; i++) {
            ThimbleSea sea = behind(1, XY + "sends x a = " + of[i][0] + "; sends y b = " + of[i][1] + ";");
            for (int heir = 0; heir < 2; heir++) {
                c.due("owns(" + heir + ", false) of " + of[i][0] + " and " + of[i][1], sea.owns(heir, false), want[i][2 * heir]);
                c.due("owns(" + heir + ", true) of " + of[i][0] + " and " + of[i][1], sea.owns(heir, true), want[i][2 * heir + 1]);
            }
        }
        ThimbleSea full = behind(7, FULL);
        // 1980 came in six weeks and 1 or more in the seventh: of 8 times 198 each week the first 495 of 1584 come
        c.due("owns(0, false) of 9999", full.owns(0, false), 1386 / 99);
        c.due("owns(0, true) of 9999", full.owns(0, true), 9999 / 99);
    }

    @Sentence(promise = 9, says = "OWNS: above (or below) the line; NONE: no such one.")
    static void p09_noSuchOne(Check c) {
        ThimbleSea eight = behind(1, FIVE_BY_EIGHT + "sends hh wa = 3;");
        c.due("owns(7, false)", eight.owns(7, false), 1);
        c.due("owns(7, true)", eight.owns(7, true), 1);
        c.due("owns(0, false)", eight.owns(0, false), 0);
        c.due("owns(0, true)", eight.owns(0, true), 1);
        for (int no : new int[] {8, -1, -2, MIN, MAX}) {
            c.due("owns(" + no + ", false)", eight.owns(no, false), -1);
            c.due("owns(" + no + ", true)", eight.owns(no, true), -1);
        }
        c.due("owns(2, true) of two", Check.sea(XY).owns(2, true), -1);
        c.due("owns(0, true) of nobody", new ThimbleSea().owns(0, true), -1);
    }

    // ---- Promise 10 -------------------------------------------------------------------------------

    private static void claim(Check c, ThimbleSea sea, int claim, long above, long below) {
        c.due("claim(" + claim + ", false)", sea.claim(claim, false), above);
        c.due("claim(" + claim + ", true)", sea.claim(claim, true), below);
    }

    @Sentence(promise = 10, says = "A CLAIM: the sum of its TERMS (so much by so much times the HEIR's drops), as such a fraction.")
    static void p10_sumOfItsTerms(Check c) {
        ThimbleSea sea = Check.sea(XY + "sends x a = 6; sends y b = 5; claim p = 1 of 2 x; claim q = 1 of 4 x + 1 of 6 y;"
            + "claim r = 99 of 1 y; claim s = 1 of 4 y + 1 of 4 y + 1 of 2 y; claim t = 1 of 99 y; claim u = 2 of 4 x + 3 of 10 y + 1 of 2 x;");
        for (int claim = 0; claim < 6; claim++) {
            claim(c, sea, claim, 0, 1);
        }
        sea.run(1);
        claim(c, sea, 0, 3, 1);
        claim(c, sea, 1, 7, 3);
        claim(c, sea, 2, 495, 1);
        claim(c, sea, 3, 5, 1);
        claim(c, sea, 4, 5, 99);
        claim(c, sea, 5, 15, 2);
        sea.merge(1, 0);
        claim(c, sea, 1, 11, 4);
        claim(c, sea, 2, 0, 1);
    }

    @Sentence(promise = 10, says = "A CLAIM: the sum of its TERMS (so much by so much times the HEIR's drops), as such a fraction.")
    static void p10_aboveAndBelowBeyond32Bits(Check c) {
        long below = 97L * 89 * 83 * 79 * 73 * 71;
        long above = below / 97 + below / 89 + below / 83 + below / 79 + below / 73 + below / 71;
        claim(c, behind(1, XY + "sends x a = 1; claim c = 1 of 97 x + 1 of 89 x + 1 of 83 x + 1 of 79 x + 1 of 73 x + 1 of 71 x;"), 0, above, below);
        // 99, 98, 97, 95, 89 and 83 have no divisor in common
        String most = FULL.replace("sends hh a = 99; sends hh a = 99;", "") + "claim c = 98 of 99 ha + 97 of 98 ha + 96 of 97 ha + 94 of 95 ha"
            + "+ 88 of 89 ha + 82 of 83 ha; claim d = " + Check.times(5, "99 of 1 ha + ") + "99 of 1 ha;";
        ThimbleSea sea = behind(8, most);
        for (int heir = 1; heir < 8; heir++) {
            sea.merge(heir, 0);
        }
        c.due("heir(0, 0)", sea.heir(0, 0), 9999);
        BigInteger sum = BigInteger.ZERO;
        BigInteger under = BigInteger.ONE;
        for (int whole : new int[] {99, 98, 97, 95, 89, 83}) {
            sum = sum.multiply(BigInteger.valueOf(whole)).add(under.multiply(BigInteger.valueOf((whole - 1) * 9999L)));
            under = under.multiply(BigInteger.valueOf(whole));
        }
        BigInteger common = sum.gcd(under);
        claim(c, sea, 0, sum.divide(common).longValueExact(), under.divide(common).longValueExact());
        claim(c, sea, 1, 6 * 99 * 9999, 1);
    }

    @Sentence(promise = 10, says = "CLAIMS, 6 at most (a NAME, 6 TERMS at most: so much of so much, 1 .. 99 each, of what an HEIR has)")
    static void p10_sixOfSixTermsEach(Check c) {
        StringBuilder text = new StringBuilder(XY + "sends x a = 2; sends y b = 3;");
        for (int claim = 0; claim < 6; claim++) {
            text.append("claim c").append((char) ('a' + claim)).append(" = ");
            for (int term = 0; term < 6; term++) {
                text.append(6 * claim + term + 1).append(" of 7 ").append(term % 2 == 0 ? 'x' : 'y').append(term < 5 ? '+' : ';');
            }
        }
        ThimbleSea sea = behind(1, text.toString());
        for (int claim = 0; claim < 6; claim++) {
            // 2 by three numbers, 3 by the three between: 2 (18 claim + 9) + 3 (18 claim + 12) of 7
            int above = 90 * claim + 54;
            claim(c, sea, claim, above % 7 == 0 ? above / 7 : above, above % 7 == 0 ? 1 : 7);
        }
    }

    @Sentence(promise = 10, says = "A CLAIM: above (or below) the line; -1: no such one.")
    static void p10_noSuchOne(Check c) {
        ThimbleSea six = behind(1, XY + "sends x a = 1;" + Check.times(6, "claim c# = 1 of 1 x;"));
        claim(c, six, 0, 1, 1);
        claim(c, six, 5, 1, 1);
        for (int no : new int[] {6, -1, -2, MIN, MAX}) {
            claim(c, six, no, -1, -1);
        }
        claim(c, Check.sea(XY + "claim c = 1 of 1 x;"), 1, -1, -1);
        claim(c, new ThimbleSea(), 0, -1, -1);
    }

    // ---- Promise 11 -------------------------------------------------------------------------------

    @Sentence(promise = 11, says = "RANK: HEIRS by drops, the most first, of alike ones by numbers.")
    static void p11_ofAlikeOnesByNumbers(Check c) {
        int[][] of = {{0, 0, 0}, {1, 1, 1}, {1, 2, 3}, {3, 2, 1}, {2, 3, 2}, {2, 1, 2}, {1, 2, 2}, {2, 2, 1}, {0, 0, 1}};
        int[][] want = {{0, 1, 2}, {0, 1, 2}, {2, 1, 0}, {0, 1, 2}, {1, 0, 2}, {0, 2, 1}, {1, 2, 0}, {0, 1, 2}, {2, 0, 1}};
        for (int i = 0; i < of.length; i++) {
            ThimbleSea sea = behind(1, "water a 1 1; heir x 1 1 1 1; heir y 9 1 1 1; heir z 5 1 1 1; sends x a = " + of[i][0] + "; sends y a = "
                + of[i][1] + "; sends z a = " + of[i][2] + ";");
            for (int rank = 0; rank < 3; rank++) {
                c.due("ranked(" + rank + "), " + i, sea.ranked(rank), want[i][rank]);
                c.due("heir(" + want[i][rank] + ", 5), " + i, sea.heir(want[i][rank], 5), rank);
            }
        }
    }

    @Sentence(promise = 11, says = "The HEIR of a RANK (0 and more); NONE: no such RANK.")
    static void p11_noSuchRank(Check c) {
        ThimbleSea eight = behind(1, FIVE_BY_EIGHT + "sends hh wa = 3;");
        c.due("ranked(0)", eight.ranked(0), 7);
        c.due("ranked(7)", eight.ranked(7), 6);
        for (int no : new int[] {8, -1, -2, MIN, MAX}) {
            c.due("ranked(" + no + ")", eight.ranked(no), -1);
        }
        c.due("ranked(1) of two", Check.sea(XY).ranked(1), 1);
        c.due("ranked(2) of two", Check.sea(XY).ranked(2), -1);
        c.due("ranked(0) of nobody", new ThimbleSea().ranked(0), -1);
    }

    // ---- Promise 12 -------------------------------------------------------------------------------

    @Sentence(promise = 12, says = "n weeks (0 .. 200; 0 is no thing done) go by: which week it is;")
    static void p12_from0To200Weeks(Check c) {
        ThimbleSea sea = Check.sea(XY + "sends x a = 1;");
        c.due("run(0)", sea.run(0), 0);
        c.due("count(9), no thing done", sea.count(9), 0);
        c.due("undo(), no thing done", sea.undo(), false);
        c.due("run(1)", sea.run(1), 1);
        c.due("count(9)", sea.count(9), 1);
        c.due("run(199)", sea.run(199), 200);
        c.due("run(200)", sea.run(200), 400);
        c.due("count(5)", sea.count(5), 400);
        c.due("run(0) in week 400", sea.run(0), 400);
        c.due("count(9)", sea.count(9), 3);
        c.due("undo() of 200 weeks", sea.undo(), true);
        c.due("count(4)", sea.count(4), 200);
        c.due("run(0) in week 200", sea.run(0), 200);
        Unchanged.by(c, "run(0)", busy -> busy.run(0));
    }

    @Sentence(promise = 12, says = "NONE, and nothing happens: no such n.")
    static void p12_noSuchN(Check c) {
        for (int n : new int[] {201, 1000, -1, -200, MIN, MAX}) {
            Unchanged.by(c, "run(" + n + ")", sea -> c.due("run(" + n + ")", sea.run(n), -1));
        }
    }

    @Sentence(promise = 12, says = "SENDS one by one: so many drops as its LAW tells, held to 0 .. 99, come into the BASIN")
    static void p12_heldTo0To99(Check c) {
        String[] laws = {"0", "1", "98", "99", "100", "9999", "0 - 1", "0 - 9999", "8192 * 8192 * 32", "8192 * 8192 * 32 - 1"};
        int[] want = {0, 1, 98, 99, 99, 99, 0, 0, 0, 99};
        for (int i = 0; i < laws.length; i++) {
            ThimbleSea sea = behind(1, XY + "sends x a = " + laws[i] + ";");
            c.due("drops(0, 0) of " + laws[i], sea.drops(0, 0), want[i]);
            c.due("heir(0, 1) of " + laws[i], sea.heir(0, 1), 0);
            c.due("salt() of " + laws[i], sea.salt(), 3 * want[i]);
        }
        // one by one: what an earlier one sent is there for a later one
        ThimbleSea sea = behind(1, XY + "sends x a = level + 1; sends y a = level + 2; sends x b = level + 4;");
        c.due("drops(0, 0)", sea.drops(0, 0), 1);
        c.due("drops(1, 0)", sea.drops(1, 0), 3);
        c.due("drops(0, 1)", sea.drops(0, 1), 8);
    }

    @Sentence(promise = 12, says = "as many as there is room; those that there is not are ISLAND of that HEIR.")
    static void p12_asManyAsThereIsRoom(Check c) {
        for (int basin = 97; basin <= 102; basin++) {
            ThimbleSea sea = behind(1, XY + "sends x a = 98; sends y b = 3; basin " + basin + ";");
            int ofX = Math.min(98, basin);
            int ofY = Math.min(3, basin - ofX);
            c.due("drops(0, 0) of " + basin, sea.drops(0, 0), ofX);
            c.due("drops(1, 1) of " + basin, sea.drops(1, 1), ofY);
            c.due("heir(0, 1) of " + basin, sea.heir(0, 1), 98 - ofX);
            c.due("heir(1, 1) of " + basin, sea.heir(1, 1), 3 - ofY);
            c.due("heir(1, 3) of " + basin, sea.heir(1, 3), ofY);
            c.due("salt() of " + basin, sea.salt(), 3 * ofX + 5 * ofY);
        }
        ThimbleSea one = behind(2, XY + "basin 1; sends x a = 2; sends y a = 1;");
        c.due("count(5) of a BASIN for one", one.count(5), 1);
        c.due("heir(0, 1)", one.heir(0, 1), 3);
        c.due("heir(1, 1)", one.heir(1, 1), 2);
        c.due("count(7)", one.count(7), 5);
        ThimbleSea full = behind(7, FULL);
        c.due("count(5) of the largest", full.count(5), 9999);
        c.due("count(7) of the largest", full.count(7), 7 * 1584 - 9999);
        // what dries up makes room in the next week
        ThimbleSea dry = behind(2, XY + "basin 10; sends x a = 10; dry = 3;");
        c.due("count(5), 3 dried up each week", dry.count(5), 7);
        c.due("heir(0, 1)", dry.heir(0, 1), 7);
        c.due("heir(0, 3)", dry.heir(0, 3), 13);
    }

    @Sentence(promise = 12, says = "Then as many drops DRY up as that LAW tells, held to 0 .. all")
    static void p12_dryHeldTo0ToAll(Check c) {
        String[] laws = {"0", "1", "9", "10", "11", "9999", "0 - 1", "8192 * 8192 * 32", "level", "level - 1", "level + 1", "1 / 0"};
        int[] want = {10, 9, 1, 0, 0, 0, 10, 10, 0, 1, 0, 10};
        for (int i = 0; i < laws.length; i++) {
            ThimbleSea sea = behind(1, XY + "sends x a = 10; dry = " + laws[i] + ";");
            c.due("count(5) of dry " + laws[i], sea.count(5), want[i]);
            c.due("drops(0, 0) of dry " + laws[i], sea.drops(0, 0), want[i]);
            c.due("salt() of dry " + laws[i], sea.salt(), 30);
        }
        ThimbleSea none = behind(1, XY + "dry = 5;");
        c.due("count(5) of none", none.count(5), 0);
        // more than 99: DRY is not held as SENDS are
        ThimbleSea full = behind(7, FULL + "dry = if week < 6 then 0 else 9998;");
        c.due("count(5), one is left", full.count(5), 1);
    }

    @Sentence(promise = 12, says = "of each HEIR's drops of each WATER (HEIR by HEIR, WATER by WATER) that number times them by all, rounded down; "
        + "those that lack one each from those with the greatest rest of that, of alike ones the first.")
    static void p12_thoseThatLack(Check c) {
        // x of a, x of b, y of a, y of b; how many dry up; what is left
        int[][] of = {
            {3, 5, 2, 0, 4, 2, 3, 1, 0}, // 12 r 2, 20 r 0, 8 r 8 of 10
            {5, 0, 2, 0, 3, 3, 0, 1, 0}, // 15 r 1, 6 r 6 of 7
            {3, 3, 3, 0, 4, 1, 2, 2, 0}, // alike ones: the first
            {0, 1, 1, 0, 1, 0, 0, 1, 0}, // HEIR by HEIR ahead of WATER by WATER
            {1, 1, 0, 0, 1, 0, 1, 0, 0},
            {0, 0, 1, 1, 1, 0, 0, 0, 1},
            {1, 1, 1, 1, 2, 0, 0, 1, 1},
            {1, 1, 1, 1, 3, 0, 0, 0, 1},
            {1, 1, 1, 1, 4, 0, 0, 0, 0},
            {1, 2, 3, 4, 5, 0, 1, 2, 2}, // 5 r 5, 10 r 0, 15 r 5, 20 r 0 of 10: the first of alike ones lacks one
            {99, 1, 1, 1, 1, 98, 1, 1, 1},
            {99, 1, 1, 1, 101, 1, 0, 0, 0}, // 98 r 3, 0 r 101 of each of the others: all three lack
            {6, 4, 0, 0, 5, 3, 2, 0, 0}, // no rest
        };
        for (int[] o : of) {
            String text = XY + "sends x a = " + o[0] + "; sends x b = " + o[1] + "; sends y a = " + o[2] + "; sends y b = " + o[3] + ";";
            ThimbleSea sea = behind(1, text + "dry = " + o[4] + ";");
            String shown = " of " + o[0] + " " + o[1] + " " + o[2] + " " + o[3] + ", " + o[4] + " dry up";
            c.due("drops(0, 0)" + shown, sea.drops(0, 0), o[5]);
            c.due("drops(0, 1)" + shown, sea.drops(0, 1), o[6]);
            c.due("drops(1, 0)" + shown, sea.drops(1, 0), o[7]);
            c.due("drops(1, 1)" + shown, sea.drops(1, 1), o[8]);
        }
    }

    @Sentence(promise = 12, says = "those that lack one each from those with the greatest rest of that, of alike ones the first.")
    static void p12_allButOneLack(Check c) {
        String text = "water a 1 1; water b 1 1; basin 9999;" + Check.times(8, "heir h# 1 1 1 1; sends h# b = 1; sends h# a = 1;");
        for (int dry = 0; dry <= 16; dry++) {
            ThimbleSea sea = behind(1, text + "dry = " + dry + ";");
            for (int cell = 0; cell < 16; cell++) {
                c.due("drops(" + cell / 2 + ", " + cell % 2 + "), " + dry + " dry up", sea.drops(cell / 2, cell % 2), cell < dry ? 0 : 1);
            }
        }
        ThimbleSea sea = behind(7, FULL + "dry = if week < 6 then 0 else 9998;");
        // of 1386, 1386, 1287, 1188 .. 1188 all but one go, and seven lack: the rests are 8613, 8613, 8712, 8811 .. 8811
        for (int heir = 0; heir < 8; heir++) {
            c.due("what is left of heir " + heir, sea.heir(heir, 0), heir == 1 ? 1 : 0);
        }
    }

    @Sentence(promise = 12, says = "Then it is the next week.")
    static void p12_thenItIsTheNextWeek(Check c) {
        ThimbleSea sea = Check.sea(XY + "sends x a = week + 5; dry = week;");
        c.due("run(1)", sea.run(1), 1);
        c.due("count(5): 5 came and none dried up in week 0", sea.count(5), 5);
        c.due("run(1)", sea.run(1), 2);
        c.due("count(5): 6 came and 1 dried up in week 1", sea.count(5), 10);
        c.due("count(4)", sea.count(4), 2);
        c.due("run(1)", new ThimbleSea().run(1), 1);
    }

    // ---- Promise 13 -------------------------------------------------------------------------------

    private static void tells(Check c, String law, int want) {
        ThimbleSea sea = Check.sea(XY + "sends y b = 50; sends x a = " + law + ";");
        c.due("tells(1) of " + law, sea.tells(1), want);
    }

    @Sentence(promise = 13, says = "What SENDS would tell now (one by itself); NONE: no such one.")
    static void p13_noSuchOne(Check c) {
        ThimbleSea sea = Check.sea(XY + Check.times(15, "sends x a = 3;") + "sends y b = 9 + level / 5;");
        c.due("tells(0)", sea.tells(0), 3);
        c.due("tells(15), one by itself", sea.tells(15), 9);
        for (int no : new int[] {16, 17, -1, -2, MIN, MAX}) {
            c.due("tells(" + no + ")", sea.tells(no), -1);
        }
        sea.run(1);
        c.due("tells(15) of 45 and 18 drops", sea.tells(15), 21);
        c.due("tells(1) of one", Check.sea(XY + "sends x a = 3;").tells(1), -1);
        c.due("tells(0) of none", new ThimbleSea().tells(0), -1);
        Unchanged.by(c, "tells(0)", busy -> busy.tells(0));
    }

    @Sentence(promise = 13, says = "so many drops as its LAW tells, held to 0 .. 99")
    static void p13_heldAsItWouldCome(Check c) {
        tells(c, "0 - 1", 0);
        tells(c, "0", 0);
        tells(c, "1", 1);
        tells(c, "98", 98);
        tells(c, "99", 99);
        tells(c, "100", 99);
        tells(c, "8192 * 8192 * 32", 0);
        tells(c, "8192 * 8192 * 32 - 1", 99);
        // what there is room for is not what it tells
        ThimbleSea full = behind(1, XY + "basin 4; sends x a = 9;");
        c.due("tells(0) of a full BASIN", full.tells(0), 9);
    }

    @Sentence(promise = 13, says = "LAWS: the E of the first if that holds (one less than the other), else the last one;")
    static void p13_theFirstIfThatHolds(Check c) {
        tells(c, "if 1 < 2 then 3 else 4", 3);
        tells(c, "if 2 < 2 then 3 else 4", 4);
        tells(c, "if 3 < 2 then 3 else 4", 4);
        tells(c, "if 0 - 1 < 0 then 3 else 4", 3);
        tells(c, "if 0 < 0 - 1 then 3 else 4", 4);
        for (int holds = 0; holds < 16; holds++) {
            StringBuilder law = new StringBuilder();
            for (int i = 0; i < 4; i++) {
                law.append("if 5 < ").append((holds >> i & 1) == 1 ? 6 : 5).append(" then ").append(10 + i).append(" else ");
            }
            tells(c, law + "20", holds == 0 ? 20 : 10 + Integer.numberOfTrailingZeros(holds));
        }
        tells(c, "if 1 + 1 < 2 * 3 - 4 then 3 else 4", 4);
        tells(c, "if 1 + 1 < 2 * 3 - 3 then 3 else 4", 3);
        tells(c, "if 1 < 2 then 3 + 4 * 2 else 4", 11);
    }

    @Sentence(promise = 13, says = "E: PART {('+' | '-') PART}. PART: UNIT {('*' | '/') UNIT}.")
    static void p13_partsOfAnE(Check c) {
        tells(c, "2 + 3 * 4", 14);
        tells(c, "2 * 3 + 4", 10);
        tells(c, "(2 + 3) * 4", 20);
        tells(c, "20 - 3 - 4", 13);
        tells(c, "20 - (3 - 4)", 21);
        tells(c, "20 - 3 + 4", 21);
        tells(c, "60 / 3 / 2", 10);
        tells(c, "60 / (3 / 2)", 60);
        tells(c, "20 / 3 * 2", 12);
        tells(c, "20 * 2 / 3", 13);
        tells(c, "1 + 2 * 3 - 4 / 2 + 5", 10);
        tells(c, "((((((7))))))", 7);
        tells(c, "1 + (2 * (3 + (4 * (5 - (6 - (7)))))) - 30", 25);
        // as much as may be left open at once: 1 + 2 * ( six times, on the other side of a <
        String open = Check.times(6, "1 + 2 * (") + "1 + 2 * 3" + Check.times(6, ")");
        tells(c, "if 0 < " + open + " then " + open + " - 500 else 1", 11);
        tells(c, "if 510 < " + open + " then 7 else 8", 7);
        tells(c, "if 511 < " + open + " then 7 else 8", 8);
        tells(c, "if " + open + " < 511 then 7 else 8", 8);
        tells(c, "if " + open + " < 512 then 7 else 8", 7);
    }

    @Sentence(promise = 13, says = "ints of 32 bits that wrap, / rounded towards 0;")
    static void p13_intsThatWrap(Check c) {
        String most = "(8192 * 8192 * 32 - 1)"; // 2147483647
        tells(c, "if 0 < " + most + " then 7 else 8", 7);
        tells(c, most + " / 8192 / 8192", 31);
        tells(c, "if " + most + " + 1 < 0 then 7 else 8", 7);
        tells(c, "if 8192 * 8192 * 31 < 8192 * 8192 * 32 then 7 else 8", 8);
        tells(c, "if 0 - 8192 * 8192 * 32 < 0 then 7 else 8", 7);
        tells(c, "if 8192 * 8192 * 32 / (0 - 1) < 0 then 7 else 8", 7);
        tells(c, "8192 * 8192 * 64 + 5", 5);
        tells(c, "256 * 256 * (256 * 256 + 1) / 256 / 256", 1);
        tells(c, "9999 * 9999 * 43 / 9999", 99);
        tells(c, "9999 * 9999 * 43 / 9999 / 10", 41);
        tells(c, "9999 * 9999 * 22 / 9999 / 9999 + 50", 30);
        tells(c, "if 9999 * 9999 * 21 < 0 then 7 else 8", 8);
        tells(c, "if 9999 * 9999 * 22 < 0 then 7 else 8", 7);
    }

    @Sentence(promise = 13, says = "ints of 32 bits that wrap, / rounded towards 0;")
    static void p13_roundedTowards0(Check c) {
        tells(c, "7 / 2", 3);
        tells(c, "1 / 2", 0);
        tells(c, "10 + (0 - 7) / 2", 7);
        tells(c, "10 + 7 / (0 - 2)", 7);
        tells(c, "10 + (0 - 7) / (0 - 2)", 13);
        tells(c, "10 + (0 - 1) / 2", 10);
        tells(c, "10 + (0 - 8) / 2", 6);
        tells(c, "10 + 1 / (0 - 9999)", 10);
    }

    @Sentence(promise = 13, says = "a LAW in which something that is looked at is divided by 0 is 0.")
    static void p13_dividedBy0(Check c) {
        tells(c, "1 / 0", 0);
        tells(c, "0 / 0", 0);
        tells(c, "5 + 1 / 0", 0);
        tells(c, "1 / 0 + 5", 0);
        tells(c, "5 + 0 * (1 / (3 - 3))", 0);
        tells(c, "5 + 7 / level", 0);
        tells(c, "5 + 7 / week", 0);
        tells(c, "5 + 7 / sent", 0);
        tells(c, "5 + level / 7", 5);
        tells(c, "if 1 / 0 < 1 then 3 else 4", 0);
        tells(c, "if 1 < 1 / 0 then 3 else 4", 0);
        tells(c, "if 1 < 2 then 3 + 1 / 0 else 4", 0);
        tells(c, "if 2 < 1 then 3 else 4 + 1 / 0", 0);
        // what is not looked at
        tells(c, "if 1 < 2 then 3 else 1 / 0", 3);
        tells(c, "if 2 < 1 then 1 / 0 else 4", 4);
        tells(c, "if 1 < 2 then 3 else if 1 / 0 < 1 then 4 else 5", 3);
        tells(c, "if 2 < 1 then 3 else if 1 / 0 < 1 then 4 else 5", 0);
        tells(c, "if 2 < 1 then 1 / 0 else if 1 < 2 then 4 else 1 / 0", 4);
    }

    @Sentence(promise = 13, says = "week: which it is, from 0 on;")
    static void p13_week(Check c) {
        ThimbleSea sea = Check.sea(XY + "sends x a = 10 + week; sends x a = week - 199; dry = if week < 1 then 7 else 0;");
        c.due("tells(0) in week 0", sea.tells(0), 10);
        sea.run(1);
        c.due("count(5), DRY in week 0", sea.count(5), 3);
        c.due("tells(0) in week 1", sea.tells(0), 11);
        sea.run(198);
        c.due("tells(1) in week 199", sea.tells(1), 0);
        sea.run(1);
        c.due("tells(1) in week 200", sea.tells(1), 1);
        sea.undo();
        c.due("tells(1) in week 199 again", sea.tells(1), 0);
    }

    @Sentence(promise = 13, says = "level: how many drops there are then; salt: all SALT then;")
    static void p13_levelAndSalt(Check c) {
        ThimbleSea sea = Check.sea(XY + "sends x a = 5; sends y b = level; sends x a = salt; sends y a = level; dry = level - salt / 90;");
        c.due("tells(1) of an empty BASIN", sea.tells(1), 0);
        c.due("tells(2) of an empty BASIN", sea.tells(2), 0);
        sea.run(1);
        // 5 of a (15), 5 of b (40), 40 of a (160), 50 of a (310): 100 of 310, 97 dry up
        c.due("drops(1, 1)", sea.drops(1, 1) >= 0, true);
        c.due("heir(0, 3)", sea.heir(0, 3), 45);
        c.due("heir(1, 3)", sea.heir(1, 3), 55);
        c.due("salt()", sea.salt(), 310);
        c.due("count(5), DRY by level and SALT", sea.count(5), 3);
        c.due("tells(1)", sea.tells(1), 3);
        c.due("tells(2)", sea.tells(2), 99);
        sea.spoon(3);
        c.due("tells(1) of none", sea.tells(1), 0);
        c.due("tells(2) of none", sea.tells(2), 0);
    }

    @Sentence(promise = 13, says = "share: that HEIR's SHARE (DRY: that of all HEIRS);")
    static void p13_share(Check c) {
        ThimbleSea sea = Check.sea(XY + "heir z 7 1 1 1; sends x a = share; sends y a = share; sends z a = 40; dry = share;");
        c.due("tells(0)", sea.tells(0), 2);
        c.due("tells(1)", sea.tells(1), 3);
        sea.run(1);
        c.due("count(5), DRY by all SHARES", sea.count(5), 45 - 12);
        sea.merge(0, 1);
        c.due("tells(0) of SHARE 0", sea.tells(0), 0);
        c.due("tells(1) of both SHARES", sea.tells(1), 5);
        sea.run(1);
        c.due("count(5), DRY by all SHARES again", sea.count(5), 33 + 45 - 12);
        sea.undo();
        sea.undo();
        c.due("tells(0), undone", sea.tells(0), 2);
    }

    @Sentence(promise = 13, says = "sent: how many drops that HEIR sent that came in so far (DRY: all HEIRS);")
    static void p13_sent(Check c) {
        ThimbleSea sea = Check.sea(XY + "basin 10; sends x a = 6; sends y a = sent + 1; sends x b = sent; sends y b = sent + 2; dry = sent;");
        c.due("tells(2) ahead of all", sea.tells(2), 0);
        sea.run(1);
        // 6 by x, 1 by y, 6 by x of which 3 come, 3 by y of which none comes; of 10 all dry up
        c.due("heir(0, 3)", sea.heir(0, 3), 9);
        c.due("heir(1, 3)", sea.heir(1, 3), 1);
        c.due("heir(0, 1)", sea.heir(0, 1), 3);
        c.due("heir(1, 1)", sea.heir(1, 1), 3);
        c.due("count(5), DRY by what all sent", sea.count(5), 0);
        c.due("tells(1)", sea.tells(1), 2);
        c.due("tells(2)", sea.tells(2), 9);
        c.due("tells(3)", sea.tells(3), 3);
        ThimbleSea part = behind(1, XY + "sends x a = 20; sends y a = 30; dry = sent - 45;");
        c.due("count(5), DRY by 50 sent", part.count(5), 45);
    }

    /** As the document tells it, with numbers that have no bound. */
    private static int lot(int n, int seed, int which) {
        BigInteger bits32 = BigInteger.ONE.shiftLeft(32);
        BigInteger h = BigInteger.valueOf(seed);
        for (int it : new int[] {24, which}) {
            h = h.xor(BigInteger.valueOf(it)).multiply(BigInteger.valueOf(1103515245)).add(BigInteger.valueOf(12345)).mod(bits32);
            h = h.xor(h.shiftRight(15));
        }
        return h.shiftRight(1).mod(BigInteger.valueOf(n)).intValueExact();
    }

    @Sentence(promise = 13, says = "lot: LOT 1000 of the SEED and 20 times the week and the SENDS' number (DRY: 19).")
    static void p13_lotOfSends(Check c) {
        for (int seed : new int[] {0, 1, 24, 4095, 9999}) {
            String text = "water a 1 1; heir x 1 1 1 1; seed " + seed + ";";
            ThimbleSea high = Check.sea(text + Check.times(16, "sends x a = lot / 100;"));
            ThimbleSea low = Check.sea(text + Check.times(16, "sends x a = lot - lot / 100 * 100;"));
            for (int week : new int[] {0, 1, 2, 3, 60, 200}) {
                high.run(week - high.count(4));
                low.run(week - low.count(4));
                for (int sends = 0; sends < 16; sends++) {
                    String of = ") of seed " + seed + " in week " + week;
                    c.due("LOT of tells(" + sends + of, high.tells(sends) * 100 + low.tells(sends), lot(1000, seed, 20 * week + sends));
                }
            }
        }
    }

    @Sentence(promise = 13, says = "LOT n of a SEED and a which: h is the SEED; for each of 24, which: h becomes (h and it, each bit of which is in just one) "
        + "times 1103515245 and 12345 more, then h and h moved 15 bits down (zeros come in), likewise; the rest of h, moved 1 bit down likewise, by n "
        + "(32 bits that wrap).")
    static void p13_lotOfDry(Check c) {
        // 1584 come each week and as many dry up as DRY draws: SEED and week alone count
        for (int seed : new int[] {0, 7, 9998, 9999}) {
            ThimbleSea sea = Check.sea(FULL + "seed " + seed + "; dry = if week < 5 then lot else level;");
            int level = 0;
            for (int week = 0; week < 5; week++) {
                level += 1584 - lot(1000, seed, 20 * week + 19);
                sea.run(1);
                c.due("count(5) of seed " + seed + " behind week " + week, sea.count(5), level);
            }
        }
    }

    // ---- Promise 35 -------------------------------------------------------------------------------

    @Sentence(promise = 35, says = "0 WATERS, 1 HEIRS, 2 SENDS, 3 CLAIMS, 4 the week, 5 drops, 6 how many the BASIN holds, 7 ISLANDS in all, "
        + "8 bytes on the tape, 9 things that can be undone, 10 TOLD ones, 11 SLOTS that hold something,")
    static void p35_emptyAndFull(Check c) {
        ThimbleSea none = new ThimbleSea();
        for (int what = 0; what <= 11; what++) {
            c.due("count(" + what + ") of none", none.count(what), what == 6 ? 999 : 0);
        }
        ThimbleSea full = behind(7, FULL + Check.times(4, "water w# 1 1;") + Check.times(6, "claim c# = 1 of 1 ha;"));
        for (int i = 0; i < 40; i++) {
            full.run(1);
            full.tell(i % 20, 5);
        }
        for (int slot = 0; slot < 3; slot++) {
            c.due("count(11)", full.count(11), slot);
            full.hold(slot);
        }
        Check.feed(full, Check.times(2000, "x"));
        int[] want = {5, 8, 16, 6, 47, 9999, 9999, 47 * 1584 - 9999, 2000, 30, 20, 3};
        for (int what = 0; what <= 11; what++) {
            c.due("count(" + what + ") of all", full.count(what), want[what]);
        }
        Unchanged.by(c, "count(5)", sea -> sea.count(5));
    }

    @Sentence(promise = 35, says = "12 SALT times 1000 by drops, rounded down, 1000000000 at most (0 without).")
    static void p35_saltTimes1000ByDrops(Check c) {
        ThimbleSea sea = Check.sea("water a 1 1; water b 0 0; heir x 1 1 1 1; sends x a = 2 - week; sends x b = 1; dry = if week < 2 then 0 else level;");
        c.due("count(12) without", sea.count(12), 0);
        sea.run(1);
        c.due("count(12) of 2 by 3", sea.count(12), 666);
        sea.run(1);
        c.due("count(12) of 3 by 5", sea.count(12), 600);
        sea.run(1);
        c.due("salt()", sea.salt(), 3);
        c.due("count(12) of 3 without drops", sea.count(12), 0);
        c.due("count(12) of SALT beyond 32 bits", behind(7, FULL).count(12), 99000);
    }

    @Sentence(promise = 35, says = "12 SALT times 1000 by drops, rounded down, 1000000000 at most (0 without).")
    static void p35_1000000000AtMost(Check c) {
        // 15 times 99 drops of 99 each week, 147015, all of which dry up, for 6802 weeks; then drops without SALT
        ThimbleSea sea = behind(6802, "water a 99 1; water b 0 1; heir x 1 1 1 1; basin 9999;"
            + Check.times(15, "sends x a = if week < 6802 then 99 else 0;")
            + "sends x b = if week < 6802 then 0 else if week < 6812 then 99 else if week < 6813 then 9 else 1;"
            + "dry = if week < 6802 then level else 0;");
        c.due("salt()", sea.salt(), 999996030);
        c.due("count(12) without drops", sea.count(12), 0);
        sea.run(11);
        c.due("count(5)", sea.count(5), 999);
        c.due("count(12) of 999 drops", sea.count(12), 1000000000);
        sea.run(1);
        c.due("count(12) of 1000 drops", sea.count(12), 999996030);
        sea.run(1);
        c.due("count(12) of 1001 drops", sea.count(12), (int) (999996030L * 1000 / 1001));
    }

    @Sentence(promise = 35, says = "NONE for others.")
    static void p35_noneForOthers(Check c) {
        ThimbleSea sea = Unchanged.busy();
        c.due("count(12) is there", sea.count(12) > 0, true);
        for (int no : new int[] {13, 14, -1, -2, MIN, MAX}) {
            c.due("count(" + no + ")", sea.count(no), -1);
            c.due("count(" + no + ") of a new object", new ThimbleSea().count(no), -1);
        }
    }
}
