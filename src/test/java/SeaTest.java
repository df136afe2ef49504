/** Promises 6 to 13 and 35: what is in the basin, whose it is, LAWS, weeks. */
public final class SeaTest {
    private static final Check CHECK = new Check("SeaTest");
    private static final int MIN = Integer.MIN_VALUE;
    private static final int MAX = Integer.MAX_VALUE;

    public static void main(String[] args) {
        aWeek();
        island();
        drying();
        saltIsBounded();
        laws();
        looks();
        lots();
        ownership();
        claims();
        ranks();
        runs();
        counts();
        oneDrop();
        allRooms();
        CHECK.end();
    }

    private static void tells(String law, int want) {
        ThimbleSea sea = Check.sea("water w 7 1; heir h 3 1 1 1; heir g 5 1 1 1; seed 42; basin 500; sends h w = 11; sends g w "
            + "= 2; sends h w = " + law + ";");
        sea.run(2);
        CHECK.due("tells(2) of " + law, sea.tells(2), want);
    }

    private static void aWeek() {
        ThimbleSea sea = Check.sea("water a 3 1; water b 5 2; heir x 2 1 1 1; heir y 3 1 1 1;"
            + "sends x a = 10; sends y b = level / 2; sends x b = sent - 9;");
        CHECK.due("run(1)", sea.run(1), 1);
        // 10 of a, then 5 of b by y, then x has sent 10: 1 of b
        CHECK.due("drops(0, 0)", sea.drops(0, 0), 10);
        CHECK.due("drops(0, 1)", sea.drops(0, 1), 1);
        CHECK.due("drops(1, 1)", sea.drops(1, 1), 5);
        CHECK.due("drops(1, 0)", sea.drops(1, 0), 0);
        CHECK.due("drops(0, -1)", sea.drops(0, -1), 11);
        CHECK.due("drops(-1, 1)", sea.drops(-1, 1), 6);
        CHECK.due("drops(-1, -1)", sea.drops(-1, -1), 16);
        CHECK.due("drops(2, 0)", sea.drops(2, 0), -1);
        CHECK.due("drops(0, 2)", sea.drops(0, 2), -1);
        CHECK.due("drops(-2, 0)", sea.drops(-2, 0), -1);
        CHECK.due("drops(0, -2)", sea.drops(0, -2), -1);
        CHECK.due("drops(max, max)", sea.drops(MAX, MAX), -1);
        CHECK.due("drops(-1, min)", sea.drops(-1, MIN), -1);
        CHECK.due("salt()", sea.salt(), 60);
        CHECK.due("heir(0, 0)", sea.heir(0, 0), 11);
        CHECK.due("heir(0, 1)", sea.heir(0, 1), 0);
        CHECK.due("heir(0, 2)", sea.heir(0, 2), 2);
        CHECK.due("heir(1, 3)", sea.heir(1, 3), 5);
        CHECK.due("heir(0, 4)", sea.heir(0, 4), 6);
        CHECK.due("heir(1, 4)", sea.heir(1, 4), 9);
        CHECK.due("heir(1, 5)", sea.heir(1, 5), 1);
        CHECK.due("heir(0, -1)", sea.heir(0, -1), -1);
        CHECK.due("heir(0, 6)", sea.heir(0, 6), -1);
        CHECK.due("heir(2, 0)", sea.heir(2, 0), -1);
        CHECK.due("heir(-1, 0)", sea.heir(-1, 0), -1);
        CHECK.due("heir(max, 0)", sea.heir(MAX, 0), -1);
    }

    private static void island() {
        ThimbleSea sea = Check.sea("water a 2 1; heir x 2 1 1 1; heir y 3 1 1 1; sends x a = 7; sends y a = 6; basin 10;");
        sea.run(1);
        CHECK.due("count(5)", sea.count(5), 10);
        CHECK.due("drops(1, 0)", sea.drops(1, 0), 3);
        CHECK.due("heir(1, 1)", sea.heir(1, 1), 3);
        CHECK.due("heir(1, 3)", sea.heir(1, 3), 3);
        CHECK.due("salt()", sea.salt(), 20);
        sea.run(2);
        CHECK.due("heir(0, 1)", sea.heir(0, 1), 14);
        CHECK.due("heir(1, 1)", sea.heir(1, 1), 15);
        CHECK.due("heir(1, 3) stays", sea.heir(1, 3), 3);
        CHECK.due("count(7)", sea.count(7), 29);
    }

    private static void drying() {
        // cells 3, 3, 3 of 9, 4 dry up: one each and one more of the first
        ThimbleSea sea = Check.sea("water a 2 1; water b 0 0; heir x 2 1 1 1; heir y 3 1 1 1; sends x b = 3; sends y a = 3;"
            + "sends x a = 3; dry = 4;");
        sea.run(1);
        CHECK.due("drops(0, 0)", sea.drops(0, 0), 1);
        CHECK.due("drops(0, 1)", sea.drops(0, 1), 2);
        CHECK.due("drops(1, 0)", sea.drops(1, 0), 2);
        CHECK.due("salt() stays", sea.salt(), 12);
        CHECK.due("count(12)", sea.count(12), 2400);
        // 5 and 2 of 7, 3 dry up: 15/7 is 2 and 1, 6/7 is 0 and 6: the second has the greater rest
        sea = Check.sea("water a 2 1; heir x 2 1 1 1; heir y 3 1 1 1; sends x a = 5; sends y a = 2; dry = 3;");
        sea.run(1);
        CHECK.due("drops(0, 0)", sea.drops(0, 0), 3);
        CHECK.due("drops(1, 0)", sea.drops(1, 0), 1);
        // held to 0 .. all; the last dry counts
        sea = Check.sea("water a 2 1; heir x 2 1 1 1; sends x a = 5; dry = 1; dry = 100;");
        sea.run(1);
        CHECK.due("count(5)", sea.count(5), 0);
        CHECK.due("salt()", sea.salt(), 10);
        CHECK.due("count(12)", sea.count(12), 0);
        sea = Check.sea("water a 2 1; heir x 2 1 1 1; sends x a = 5; dry = 0 - 3;");
        sea.run(1);
        CHECK.due("count(5)", sea.count(5), 5);
        // DRY looks at all SHARES and at what all sent: 5 - 2 = 3 of 8
        sea = Check.sea("water a 1 1; heir x 2 1 1 1; heir y 3 1 1 1; sends x a = 6; sends y a = 2; dry = share + sent - level - 2;");
        sea.run(1);
        CHECK.due("count(5) by share and sent", sea.count(5), 5);
        // level and week: 8 + 5 = 13, sent 16: 5 + 16 - 13 - 2 = 6
        sea.run(1);
        CHECK.due("count(5) of week 2", sea.count(5), 7);
    }

    private static void saltIsBounded() {
        StringBuilder text = new StringBuilder("water a 99 1; heir x 2 1 1 1; basin 9999; dry = level;");
        for (int i = 0; i < 16; i++) {
            text.append("sends x a = 99;");
        }
        ThimbleSea sea = Check.sea(text.toString());
        for (int i = 0; i < 31; i++) {
            sea.run(200);
        }
        CHECK.due("salt() below its most", sea.salt(), 6200 * 16 * 99 * 99);
        sea.run(200);
        CHECK.due("salt() at its most", sea.salt(), 1000000000);
        CHECK.due("heir(0, 3)", sea.heir(0, 3), 6400 * 16 * 99);
        CHECK.due("count(4)", sea.count(4), 6400);
        // 1000000000 * 1000 by 10 drops is held to 1000000000 in count, and not in SALTY
        Check.feed(sea, text.toString().replace("dry = level", "dry = level - 10"));
        sea.read();
        for (int i = 0; i < 35; i++) {
            sea.run(200);
        }
        CHECK.due("count(5)", sea.count(5), 10);
        CHECK.due("count(12)", sea.count(12), 1000000000);
        CHECK.due("salty(max)", sea.salty(MAX), 0);
        CHECK.due("spoon(3)", sea.spoon(3), 300000000);
        CHECK.due("salt()", sea.salt(), 700000000);
    }

    private static void laws() {
        tells("5", 5);
        tells("99", 99);
        tells("100", 99);
        tells("0 - 1", 0);
        tells("2 + 3 * 4", 14);
        tells("(2 + 3) * 4", 20);
        tells("20 - 3 - 4", 13);
        tells("20 / 3 / 2", 3);
        tells("20 / 3 * 2", 12);
        tells("50 + (3 - 10) / 2", 47);
        tells("((((((7))))))", 7);
        tells("if 1 < 2 then 3 else 4", 3);
        tells("if 2 < 2 then 3 else 4", 4);
        tells("if 2 < 1 then 3 else if 1 < 2 then 5 else 6", 5);
        tells("if 1 < 2 then 3 else if 1 < 2 then 5 else 6", 3);
        tells("if 2 < 1 then 3 else if 2 < 1 then 5 else 6", 6);
        tells("if 0 - 1 < 0 then 3 else 4", 3);
        // ints of 32 bits that wrap
        tells("9999 * 9999 * 43", 99);
        tells("if 9999 * 9999 * 22 < 0 then 8 else 9", 8);
        tells("if 0 - 8192 * 8192 * 32 < 0 then 8 else 9", 8);
        tells("if (0 - 8192 * 8192 * 32) / (0 - 1) < 0 then 8 else 9", 8);
        // what is looked at divided by 0
        tells("1 / 0", 0);
        tells("5 + 0 * (1 / 0)", 0);
        tells("if 1 / 0 < 1 then 3 else 4", 0);
        tells("if 1 < 1 / 0 then 3 else 4", 0);
        tells("if 1 < 2 then 3 else 1 / 0", 3);
        tells("if 2 < 1 then 1 / 0 else 4", 4);
        tells("if 1 < 2 then 3 else if 1 / 0 < 1 then 4 else 5", 3);
        tells("if 2 < 1 then 3 else if 1 / 0 < 1 then 4 else 5", 0);
        tells("7 / (3 - 3) + 1", 0);
    }

    private static void looks() {
        // Behind two weeks with 11 + 2 + 1 drops: 28 drops, 196 of SALT, h sent 24.
        tells("1 + 0 * week", 1);
        ThimbleSea sea = Check.sea("water w 3 1; heir h 3 1 1 1; heir g 5 1 1 1; sends h w = 11; sends g w = 2;"
            + "sends h w = week * 10; sends g w = level; sends h w = salt / 2; sends h w = share; sends g w = share;"
            + "sends h w = sent; sends g w = sent; sends h w = 0 * lot;");
        CHECK.due("tells(2)", sea.tells(2), 0);
        CHECK.due("tells(5)", sea.tells(5), 3);
        CHECK.due("tells(6)", sea.tells(6), 5);
        CHECK.due("run(1)", sea.run(1), 1);
        // 11, 2, 0, 13, 39, 3, 5, 53 (11 + 39 + 3), 20 (2 + 13 + 5): 146
        CHECK.due("count(5)", sea.count(5), 146);
        CHECK.due("heir(0, 3)", sea.heir(0, 3), 106);
        CHECK.due("heir(1, 3)", sea.heir(1, 3), 40);
        CHECK.due("tells(2) in week 1", sea.tells(2), 10);
        CHECK.due("tells(3) in week 1", sea.tells(3), 99);
        CHECK.due("tells(8) in week 1", sea.tells(8), 40);
        CHECK.due("tells(10)", sea.tells(10), -1);
        CHECK.due("tells(-1)", sea.tells(-1), -1);
        CHECK.due("tells(max)", sea.tells(MAX), -1);
        sea.merge(0, 1);
        CHECK.due("tells(5) of merged", sea.tells(5), 0);
        CHECK.due("tells(6) of merged", sea.tells(6), 8);
        CHECK.due("tells(7) of merged", sea.tells(7), 99);
    }

    private static int mixed(int h, int it) {
        int x = (h ^ it) * 1103515245 + 12345;
        return x ^ x >>> 15;
    }

    private static int lot(int seed, int which) {
        return (mixed(mixed(seed, 24), which) >>> 1) % 1000;
    }

    private static void lots() {
        ThimbleSea sea = Check.sea("water w 0 0; heir h 1 1 1 1; seed 7; sends h w = lot / 11; sends h w = 0; sends h w = lot / 11;"
            + "dry = lot / 50; basin 9999;");
        CHECK.due("tells(0)", sea.tells(0), lot(7, 0) / 11);
        CHECK.due("tells(2)", sea.tells(2), lot(7, 2) / 11);
        int level = 0;
        for (int week = 0; week < 20; week++) {
            level += lot(7, 20 * week) / 11 + lot(7, 20 * week + 2) / 11;
            level -= Math.min(level, lot(7, 20 * week + 19) / 50);
            sea.run(1);
            CHECK.due("count(5) behind week " + week, sea.count(5), level);
        }
        // by hand: seed 0, which 0
        sea = Check.sea("water w 0 0; heir h 1 1 1 1; sends h w = lot / 10; sends h w = lot - lot / 10 * 10;");
        CHECK.due("tells(0) of seed 0", sea.tells(0), lot(0, 0) / 10);
        CHECK.due("tells(1) of seed 0", sea.tells(1), lot(0, 1) % 10);
    }

    private static void ownership() {
        ThimbleSea sea = Check.sea("water a 2 1; heir x 2 1 1 1; heir y 3 1 1 1; heir z 1 1 1 1; sends x a = 6; sends y a = 3;");
        CHECK.due("owns(0, false) without drops", sea.owns(0, false), 0);
        CHECK.due("owns(0, true) without drops", sea.owns(0, true), 1);
        sea.run(1);
        CHECK.due("owns(0, false)", sea.owns(0, false), 2);
        CHECK.due("owns(0, true)", sea.owns(0, true), 3);
        CHECK.due("owns(1, false)", sea.owns(1, false), 1);
        CHECK.due("owns(1, true)", sea.owns(1, true), 3);
        CHECK.due("owns(2, false)", sea.owns(2, false), 0);
        CHECK.due("owns(2, true)", sea.owns(2, true), 1);
        CHECK.due("owns(3, true)", sea.owns(3, true), -1);
        CHECK.due("owns(-1, true)", sea.owns(-1, true), -1);
        // DUE: 9 drops by 2, 3, 1 of 6
        CHECK.due("heir(0, 4)", sea.heir(0, 4), 3);
        CHECK.due("heir(1, 4)", sea.heir(1, 4), 4);
        CHECK.due("heir(2, 4)", sea.heir(2, 4), 1);
    }

    private static void claims() {
        ThimbleSea sea = Check.sea("water a 2 1; heir x 2 1 1 1; heir y 3 1 1 1; sends x a = 6; sends y a = 5; claim one = 1 of 2 x;"
            + "claim two = 1 of 4 x + 1 of 6 y; claim three = 99 of 1 y; claim four = 1 of 97 x + 1 of 89 x + 1 of 83 x"
            + "+ 1 of 79 y + 1 of 73 y + 1 of 71 y; claim five = 1 of 4 y + 1 of 4 y + 1 of 2 y;");
        CHECK.due("claim(1, false) of nothing", sea.claim(1, false), 0);
        CHECK.due("claim(1, true) of nothing", sea.claim(1, true), 1);
        sea.run(1);
        CHECK.due("claim(0, false)", sea.claim(0, false), 3);
        CHECK.due("claim(0, true)", sea.claim(0, true), 1);
        CHECK.due("claim(1, false)", sea.claim(1, false), 7);
        CHECK.due("claim(1, true)", sea.claim(1, true), 3);
        CHECK.due("claim(2, false)", sea.claim(2, false), 495);
        CHECK.due("claim(2, true)", sea.claim(2, true), 1);
        long under = 97L * 89 * 83 * 79 * 73 * 71;
        CHECK.due("claim(3, true)", sea.claim(3, true), under);
        CHECK.due("claim(3, false)", sea.claim(3, false),
            6 * (under / 97 + under / 89 + under / 83) + 5 * (under / 79 + under / 73 + under / 71));
        CHECK.due("claim(4, false)", sea.claim(4, false), 5);
        CHECK.due("claim(4, true)", sea.claim(4, true), 1);
        CHECK.due("claim(5, false)", sea.claim(5, false), -1);
        CHECK.due("claim(-1, true)", sea.claim(-1, true), -1);
        CHECK.due("claim(max, true)", sea.claim(MAX, true), -1);
    }

    private static void ranks() {
        ThimbleSea sea = Check.sea("water a 2 1; heir x 2 1 1 1; heir y 3 1 1 1; heir z 1 1 1 1; sends z a = 6; sends y a = 6; sends x a = 2;");
        CHECK.due("ranked(0) of nothing", sea.ranked(0), 0);
        sea.run(1);
        int[] want = {1, 2, 0};
        for (int rank = 0; rank < 3; rank++) {
            CHECK.due("ranked(" + rank + ")", sea.ranked(rank), want[rank]);
            CHECK.due("RANK of " + want[rank], sea.heir(want[rank], 5), rank);
        }
        CHECK.due("ranked(3)", sea.ranked(3), -1);
        CHECK.due("ranked(-1)", sea.ranked(-1), -1);
        CHECK.due("ranked(min)", sea.ranked(MIN), -1);
    }

    private static void runs() {
        ThimbleSea sea = Check.sea("water a 2 1; heir x 2 1 1 1; sends x a = 1; basin 9999;");
        CHECK.due("run(-1)", sea.run(-1), -1);
        CHECK.due("run(201)", sea.run(201), -1);
        CHECK.due("run(max)", sea.run(MAX), -1);
        CHECK.due("count(9) behind none", sea.count(9), 0);
        CHECK.due("run(0)", sea.run(0), 0);
        CHECK.due("count(9) behind run(0)", sea.count(9), 0);
        CHECK.due("run(200)", sea.run(200), 200);
        CHECK.due("count(9)", sea.count(9), 1);
        CHECK.due("count(5)", sea.count(5), 200);
        CHECK.due("run(1)", sea.run(1), 201);
        CHECK.due("run(0)", sea.run(0), 201);
        CHECK.due("count(5)", sea.count(5), 201);
    }

    private static void oneDrop() {
        ThimbleSea sea = Check.sea("water a 7 1; heir x 1 1 1 1; sends x a = 1; dry = if week < 1 then 0 else 1;");
        sea.run(1);
        CHECK.due("owns(0, false) of one drop", sea.owns(0, false), 1);
        CHECK.due("owns(0, true) of one drop", sea.owns(0, true), 1);
        CHECK.due("heir(0, 4) of one drop", sea.heir(0, 4), 1);
        CHECK.due("count(12) of one drop", sea.count(12), 7000);
        CHECK.due("crossed(1, 1, 0)", sea.crossed(1, 1, 0), 0);
        CHECK.due("asked(1, 1)", sea.asked(1, 1), 1);
        CHECK.due("gives(1, 0)", sea.gives(1, 0), 1);
        CHECK.due("spoon(1)", sea.spoon(1), 7);
        CHECK.due("salt()", sea.salt(), 0);
        CHECK.due("count(5)", sea.count(5), 0);
        CHECK.due("run(1)", sea.run(1), 2);
        CHECK.due("one comes and one dries up", sea.count(5), 0);
    }

    /** Eight HEIRS, five WATERS, the last of each as good as the first. */
    private static void allRooms() {
        StringBuilder text = new StringBuilder("basin 9999; dry = 1;");
        for (int w = 0; w < 5; w++) {
            text.append("water w").append((char) ('a' + w)).append(' ').append(w).append(" 1;");
        }
        for (int h = 0; h < 8; h++) {
            text.append("heir h").append((char) ('a' + h)).append(" 1 1 1 1;");
            text.append("sends h").append((char) ('a' + h)).append(" we = ").append(h).append(';');
        }
        ThimbleSea sea = Check.sea(text.toString());
        sea.run(1);
        // 28 come; the one that dries up is of the greatest rest, the last HEIR's
        CHECK.due("drops(7, 4)", sea.drops(7, 4), 6);
        CHECK.due("drops(7, -1)", sea.drops(7, -1), 6);
        CHECK.due("drops(-1, 4)", sea.drops(-1, 4), 27);
        CHECK.due("drops(-1, -1)", sea.drops(-1, -1), 27);
        CHECK.due("heir(7, 5): alike ones by numbers", sea.heir(7, 5), 1);
        CHECK.due("ranked(7)", sea.ranked(7), 0);
        CHECK.due("heir(7, 3)", sea.heir(7, 3), 7);
        CHECK.due("salt()", sea.salt(), 28 * 4);
    }

    private static void counts() {
        ThimbleSea sea = Check.sea("water a 2 1; water b 1 1; heir x 2 1 1 1; sends x a = 4; sends x b = 4; sends x a = 1; basin 7;"
            + "claim c = 1 of 1 x; dry = 1;");
        sea.run(1);
        sea.run(1);
        sea.hold(2);
        sea.tell(1, 1);
        sea.tell(1, 1);
        sea.feed(1, 2, 3, 4, 5);
        // week 1: 4 and 3 come, 2 are ISLAND, 6 stay; week 2: 1 comes, 8 are ISLAND; SALT 8 + 3 + 2
        int[] want = {2, 1, 3, 1, 2, 6, 7, 10, 20, 2, 2, 1, 13 * 1000 / 6};
        for (int what = 0; what < 13; what++) {
            CHECK.due("count(" + what + ")", sea.count(what), want[what]);
        }
        CHECK.due("count(13)", sea.count(13), -1);
        CHECK.due("count(-1)", sea.count(-1), -1);
        CHECK.due("count(min)", sea.count(MIN), -1);
    }
}
