import java.util.function.Consumer;

/** What the document says of what is done, undone and held, at its bounds: promises 14 to 17, 33 and 34. */
public final class DoingBoundsTest {
    private static final int MIN = Integer.MIN_VALUE;
    private static final int MAX = Integer.MAX_VALUE;
    /** Behind a week x has 7 of a and 5 of b, y 6 of b and 3 as ISLAND, z nothing. */
    private static final String XYZ = "water a 3 1; water b 5 2; heir x 2 1 1 1; heir y 3 1 1 1; heir z 4 1 1 1;"
        + "sends x a = 7; sends x b = 5; sends y b = 9; basin 18;";

    public static void main(String[] args) throws Exception {
        Sentences.run(DoingBoundsTest.class);
    }

    private static ThimbleSea aWeek() {
        ThimbleSea sea = Check.sea(XYZ);
        sea.run(1);
        return sea;
    }

    private static void drops(Check c, ThimbleSea sea, int... want) {
        for (int heir = 0; heir < 3; heir++) {
            for (int water = 0; water < 2; water++) {
                c.due("drops(" + heir + ", " + water + ")", sea.drops(heir, water), want[2 * heir + water]);
            }
        }
    }

    // ---- Promise 14 -------------------------------------------------------------------------------

    @Sentence(promise = 14, says = "MERGED: all drops and ISLANDS of one HEIR are another's, so is his SHARE (his own is 0 then;")
    static void p14_hisOwnIs0Then(Check c) {
        ThimbleSea sea = aWeek();
        c.due("merge(1, 0)", sea.merge(1, 0), 6);
        drops(c, sea, 7, 11, 0, 0, 0, 0);
        c.due("ISLAND of x", sea.heir(0, 1), 3);
        c.due("ISLAND of y", sea.heir(1, 1), 0);
        c.due("SHARE of x", sea.heir(0, 2), 5);
        c.due("SHARE of y", sea.heir(1, 2), 0);
        c.due("DUE of y", sea.heir(1, 4), 0);
        c.due("merge(0, 2)", sea.merge(0, 2), 18);
        drops(c, sea, 0, 0, 0, 0, 7, 11);
        c.due("ISLAND of z", sea.heir(2, 1), 3);
        c.due("SHARE of z", sea.heir(2, 2), 9);
        c.due("SHARE of x", sea.heir(0, 2), 0);
        c.due("salt() stays", sea.salt(), 76);
        c.due("count(5) stays", sea.count(5), 18);
        c.due("count(7) stays", sea.count(7), 3);
        c.due("merge(1, 0) of one who has nothing", sea.merge(1, 0), 0);
        c.due("count(9), it is done all the same", sea.count(9), 4);
        c.due("merge(2, 1)", sea.merge(2, 1), 18);
        c.due("SHARE of y, who had given his", sea.heir(1, 2), 9);
        ThimbleSea both = Check.sea(XYZ + "sends x b = 4;");
        both.run(1);
        c.due("ISLAND of x", both.heir(0, 1), 4);
        both.merge(0, 1);
        c.due("ISLAND of both", both.heir(1, 1), 7);
        c.due("ISLAND of x then", both.heir(0, 1), 0);
        c.due("count(7)", both.count(7), 7);
    }

    @Sentence(promise = 14, says = "he goes on to send as himself, what he sent stays his).")
    static void p14_goesOnToSendAsHimself(Check c) {
        ThimbleSea sea = aWeek();
        sea.merge(1, 0);
        c.due("heir(0, 3)", sea.heir(0, 3), 12);
        c.due("heir(1, 3)", sea.heir(1, 3), 6);
        sea.spoon(18);
        sea.run(1);
        drops(c, sea, 7, 5, 0, 6, 0, 0);
        c.due("heir(1, 3) behind a week more", sea.heir(1, 3), 12);
        c.due("his ISLAND from now on", sea.heir(1, 1), 3);
        c.due("ISLAND of x stays", sea.heir(0, 1), 3);
        c.due("without(1, 1, -1): his SENDS are his", sea.without(1, 1, -1), 0);
        sea.spoon(18);
        c.due("without(1, 1, -1) of an empty BASIN", sea.without(1, 1, -1), 6);
    }

    @Sentence(promise = 14, says = "The first HEIR's are the other one's (MERGED): how many drops; NONE, and nothing happens: no such ones, one and the same.")
    static void p14_noSuchOnes(Check c) {
        int[][] wrong = {{0, 0}, {2, 2}, {0, 3}, {3, 0}, {-1, 0}, {0, -1}, {-1, -1}, {3, 3}, {3, 4}, {MIN, 0}, {0, MIN}, {MAX, 1}, {1, MAX}};
        for (int[] w : wrong) {
            String call = "merge(" + w[0] + ", " + w[1] + ")";
            Unchanged.by(c, call, sea -> c.due(call, sea.merge(w[0], w[1]), -1));
        }
        ThimbleSea eight = Check.sea(Check.times(8, "heir h# 1 1 1 1;"));
        c.due("merge(7, 0) of eight", eight.merge(7, 0), 0);
        c.due("merge(0, 7) of eight", eight.merge(0, 7), 0);
        c.due("SHARE of the last", eight.heir(7, 2), 2);
        c.due("merge(8, 0) of eight", eight.merge(8, 0), -1);
        c.due("merge(0, 8) of eight", eight.merge(0, 8), -1);
    }

    // ---- Promise 15 -------------------------------------------------------------------------------

    @Sentence(promise = 15, says = "SPLIT p of q: of each WATER so much of one HEIR's drops, rounded down, are another's.")
    static void p15_roundedDown(Check c) {
        // p, q, how many of 7 and of 5
        int[][] of = {{0, 1, 0, 0}, {1, 1, 7, 5}, {1, 2, 3, 2}, {1, 5, 1, 1}, {1, 6, 1, 0}, {1, 7, 1, 0}, {1, 8, 0, 0}, {6, 7, 6, 4},
            {98, 99, 6, 4}, {99, 99, 7, 5}, {0, 99, 0, 0}, {1, 99, 0, 0}, {4, 5, 5, 4}, {3, 4, 5, 3}};
        for (int[] o : of) {
            ThimbleSea sea = aWeek();
            c.due("split(0, 2, " + o[0] + ", " + o[1] + ")", sea.split(0, 2, o[0], o[1]), o[2] + o[3]);
            drops(c, sea, 7 - o[2], 5 - o[3], 0, 6, o[2], o[3]);
            c.due("count(9), a thing done", sea.count(9), 2);
            c.due("SHARE stays", sea.heir(0, 2), 2);
            c.due("ISLAND stays", sea.heir(1, 1), 3);
            c.due("salt() stays", sea.salt(), 76);
        }
        // 9999 drops times 98 by 99
        ThimbleSea full = Check.sea("water a 1 1; heir x 1 1 1 1; heir y 1 1 1 1; basin 9999;" + Check.times(16, "sends x a = 99;"));
        full.run(7);
        c.due("split(0, 1, 98, 99) of 9999", full.split(0, 1, 98, 99), 9898);
        c.due("heir(0, 0)", full.heir(0, 0), 101);
    }

    @Sentence(promise = 15, says = "SPLIT p of q from the first HEIR to the other one: how many drops; NONE, and nothing happens: no such ones, one and the same, "
        + "not 0 <= p <= q, q not 1 .. 99.")
    static void p15_noSuchOnes(Check c) {
        int[][] wrong = {{0, 0, 1, 2}, {1, 1, 0, 1}, {0, 3, 1, 2}, {3, 0, 1, 2}, {-1, 0, 1, 2}, {0, -1, 1, 2}, {MIN, 0, 1, 2}, {0, MAX, 1, 2},
            {0, 1, -1, 2}, {0, 1, 3, 2}, {0, 1, 100, 99}, {0, 1, 2, 1}, {0, 1, 0, 0}, {0, 1, 1, 0}, {0, 1, 1, 100}, {0, 1, 100, 100},
            {0, 1, 0, 100}, {0, 1, 0, -1}, {0, 1, -1, -1}, {0, 1, -2, -1}, {0, 1, MIN, MIN}, {0, 1, MIN, 2}, {0, 1, MAX, 2}, {0, 1, 1, MAX},
            {0, 1, 1, MIN}};
        for (int[] w : wrong) {
            String call = "split(" + w[0] + ", " + w[1] + ", " + w[2] + ", " + w[3] + ")";
            Unchanged.by(c, call, sea -> c.due(call, sea.split(w[0], w[1], w[2], w[3]), -1));
        }
        ThimbleSea eight = Check.sea(Check.times(8, "heir h# 1 1 1 1;"));
        c.due("split(7, 0, 1, 1) of eight", eight.split(7, 0, 1, 1), 0);
        c.due("split(8, 0, 1, 1) of eight", eight.split(8, 0, 1, 1), -1);
        c.due("split(0, 8, 1, 1) of eight", eight.split(0, 8, 1, 1), -1);
    }

    // ---- Promise 16 -------------------------------------------------------------------------------

    @Sentence(promise = 16, says = "SPOON: so many drops are taken out, as they DRY up, and SALT with them: SALT times that by all, rounded down.")
    static void p16_saltRoundedDown(Check c) {
        // 35 r 17, 25 r 7, 30 r 12 of 18: 1, 1, 1 go and one more of the first and the third
        ThimbleSea sea = aWeek();
        c.due("spoon(5) of 18 with 76", sea.spoon(5), 21);
        drops(c, sea, 5, 4, 0, 4, 0, 0);
        c.due("salt()", sea.salt(), 55);
        c.due("count(5)", sea.count(5), 13);
        c.due("heir(0, 3) stays", sea.heir(0, 3), 12);
        c.due("spoon(1) of 13 with 55", sea.spoon(1), 4);
        c.due("spoon(12), all", sea.spoon(12), 51);
        c.due("salt() of none", sea.salt(), 0);
        c.due("count(5) of none", sea.count(5), 0);
        ThimbleSea three = Check.sea("water a 1 1; water b 0 1; heir x 1 1 1 1; sends x a = 2; sends x b = 1;");
        three.run(1);
        c.due("spoon(1) of 3 with 2", three.spoon(1), 0);
        c.due("salt()", three.salt(), 2);
        c.due("spoon(1) of 2 with 2", three.spoon(1), 1);
        // SALT without drops goes with the drops that come later
        ThimbleSea dry = Check.sea("water a 9 1; heir x 1 1 1 1; sends x a = 1; dry = if week < 5 then 1 else 0;");
        dry.run(6);
        c.due("salt() of one drop", dry.salt(), 54);
        c.due("spoon(1)", dry.spoon(1), 54);
    }

    @Sentence(promise = 16, says = "and SALT with them: SALT times that by all, rounded down.")
    static void p16_saltBeyond32Bits(Check c) {
        ThimbleSea sea = Check.sea("water a 99 1; heir x 1 1 1 1; heir y 1 1 1 1; basin 9999;" + Check.times(16, "sends x a = 99;") + "dry = if week < 6400 then level else 0;");
        for (int i = 0; i < 32; i++) {
            sea.run(200);
        }
        sea.run(7);
        c.due("salt()", sea.salt(), 1000000000);
        c.due("count(5)", sea.count(5), 9999);
        c.due("spoon(9998) of 9999", sea.spoon(9998), (int) (1000000000L * 9998 / 9999));
        c.due("salt()", sea.salt(), 1000000000 - (int) (1000000000L * 9998 / 9999));
        c.due("heir(0, 0)", sea.heir(0, 0), 1);
        sea.undo();
        c.due("spoon(1) of 9999", sea.spoon(1), 100010);
    }

    @Sentence(promise = 16, says = "SPOON: how much SALT goes; NONE, and nothing happens: not so many drops, below 1.")
    static void p16_notSoManyDrops(Check c) {
        int all = Unchanged.busy().count(5);
        c.due("count(5) of the busy one", all > 1, true);
        for (int n : new int[] {0, -1, all + 1, 9999, MIN, MAX}) {
            Unchanged.by(c, "spoon(" + n + ")", sea -> c.due("spoon(" + n + ")", sea.spoon(n), -1));
        }
        c.due("spoon(all) of the busy one", Unchanged.busy().spoon(all) > 0, true);
        c.due("spoon(all - 1) of the busy one", Unchanged.busy().spoon(all - 1) > 0, true);
        c.due("spoon(1) of none", new ThimbleSea().spoon(1), -1);
        c.due("spoon(0) of none", new ThimbleSea().spoon(0), -1);
    }

    // ---- Promise 17 -------------------------------------------------------------------------------

    private static void undone(Check c, String call, Consumer<ThimbleSea> thing) {
        ThimbleSea sea = Unchanged.busy();
        int done = sea.count(9);
        String before = Unchanged.shown(sea);
        thing.accept(sea);
        c.due("count(9) behind " + call, sea.count(9), done + 1);
        c.due(call + " changes something", before.equals(Unchanged.shown(sea)), false);
        c.due("undo() of " + call, sea.undo(), true);
        c.alike("undo() of " + call, Unchanged.shown(sea), before);
    }

    @Sentence(promise = 17, says = "The last thing done (run, merge, split, spoon) is undone: true;")
    static void p17_eachThingIsUndone(Check c) {
        undone(c, "run(1)", sea -> sea.run(1));
        undone(c, "run(200)", sea -> sea.run(200));
        undone(c, "merge(0, 1)", sea -> sea.merge(0, 1));
        undone(c, "merge(2, 0)", sea -> sea.merge(2, 0));
        undone(c, "split(0, 1, 1, 2)", sea -> sea.split(0, 1, 1, 2));
        undone(c, "split(0, 1, 0, 1)", sea -> sea.split(0, 1, 0, 1));
        undone(c, "spoon(1)", sea -> sea.spoon(1));
        undone(c, "spoon(all)", sea -> sea.spoon(sea.count(5)));
    }

    @Sentence(promise = 17, says = "false: there is none (the last 30 can be).")
    static void p17_theLast30CanBe(Check c) {
        for (int things = 28; things <= 33; things++) {
            ThimbleSea sea = Check.sea(XYZ);
            c.due("undo() of none", sea.undo(), false);
            for (int i = 1; i <= things; i++) {
                sea.run(i);
                c.due("count(9) behind " + i, sea.count(9), Math.min(30, i));
            }
            int week = things * (things + 1) / 2;
            for (int i = things; i > Math.max(0, things - 30); i--) {
                c.due("undo() of the " + i + "th of " + things, sea.undo(), true);
                week -= i;
                c.due("count(4)", sea.count(4), week);
            }
            c.due("count(9) of " + things, sea.count(9), 0);
            c.due("undo() of one more than can be", sea.undo(), false);
            c.due("count(4) stays", sea.count(4), week);
        }
        Unchanged.by(c, "undo() of none", () -> Check.sea(XYZ), sea -> c.due("undo() of none", sea.undo(), false));
    }

    @Sentence(promise = 17, says = "The last thing done (run, merge, split, spoon) is undone: true; false: there is none (the last 30 can be).")
    static void p17_whatIsUndoneIsGone(Check c) {
        ThimbleSea sea = Check.sea(XYZ);
        for (int i = 0; i < 40; i++) {
            sea.run(1);
        }
        for (int i = 0; i < 10; i++) {
            sea.undo();
        }
        c.due("count(4)", sea.count(4), 30);
        sea.run(100);
        c.due("count(9)", sea.count(9), 21);
        c.due("undo()", sea.undo(), true);
        c.due("count(4)", sea.count(4), 30);
        for (int i = 0; i < 20; i++) {
            c.due("undo() of the " + i + "th", sea.undo(), true);
        }
        c.due("count(4) behind all that can be", sea.count(4), 10);
        c.due("undo() of one more", sea.undo(), false);
    }

    @Sentence(promise = 17, says = "The last thing done (run, merge, split, spoon) is undone: true;")
    static void p17_otherCallsAreNoThingsDone(Check c) {
        ThimbleSea sea = Unchanged.busy();
        c.due("count(9)", sea.count(9), 6);
        sea.run(0);
        sea.run(201);
        sea.merge(0, 0);
        sea.split(0, 1, 2, 1);
        sea.spoon(0);
        sea.hold(1);
        sea.tell(3, 3);
        sea.forget();
        sea.back(2);
        sea.enough(30);
        sea.without(0, 5, 1);
        sea.restore(3);
        sea.feed(0, 0, 0, 0, 0);
        c.due("read() with a FAULT", sea.read(), 1);
        c.due("count(9) stays", sea.count(9), 6);
        sea.tell(7, 7);
        c.due("undo() of the last run", sea.undo(), true);
        c.due("count(4)", sea.count(4), 4);
        c.due("count(10), what is TOLD stays", sea.count(10), 1);
        c.due("count(11), SLOTS stay", sea.count(11), 3);
    }

    // ---- Promise 33 -------------------------------------------------------------------------------

    @Sentence(promise = 33, says = "The BASIN, HEIRS' SHARES, the week are held in a SLOT (0 .. 2): true; false: no such one.")
    static void p33_noSuchSlot(Check c) {
        for (int slot : new int[] {3, 4, -1, MIN, MAX}) {
            Unchanged.by(c, "hold(" + slot + ")", sea -> c.due("hold(" + slot + ")", sea.hold(slot), false));
        }
        for (int slot = 0; slot < 3; slot++) {
            ThimbleSea sea = new ThimbleSea();
            c.due("hold(" + slot + ") of a new object", sea.hold(slot), true);
            c.due("count(11)", sea.count(11), 1);
            c.due("hold(" + slot + ") again", sea.hold(slot), true);
            c.due("count(11) again", sea.count(11), 1);
            for (int other = 0; other < 3; other++) {
                c.due("restore(" + other + ")", sea.restore(other), other == slot);
            }
        }
    }

    @Sentence(promise = 33, says = "The BASIN, HEIRS' SHARES, the week are held in a SLOT (0 .. 2): true; false: no such one.")
    static void p33_whatIsHeld(Check c) {
        ThimbleSea sea = Unchanged.busy();
        String before = Unchanged.shown(sea);
        sea.hold(1);
        c.due("count(11)", sea.count(11), 3);
        c.alike("hold(1) changes nothing else", Unchanged.shown(sea).replace("count 11: 3", "count 11: 2"), before);
        sea.run(5);
        sea.merge(0, 2);
        sea.spoon(2);
        sea.undo();
        c.due("restore(1)", sea.restore(1), true);
        c.alike("hold(1), gone on from", Unchanged.shown(sea).replace("count 11: 3", "count 11: 2").replace("count 9: 0", "count 9: 6"), before);
    }

    @Sentence(promise = 33, says = "The BASIN, HEIRS' SHARES, the week are held in a SLOT (0 .. 2): true; false: no such one.")
    static void p33_heldAgainTheLaterOneStands(Check c) {
        ThimbleSea sea = Unchanged.busy();
        sea.hold(1);
        sea.run(1);
        sea.merge(0, 2);
        sea.hold(1);
        String later = Unchanged.shown(sea);
        sea.run(9);
        sea.restore(1);
        c.alike("hold(1) again", Unchanged.shown(sea).replace("count 9: 0", "count 9: 8"), later);
    }

    @Sentence(promise = 33, says = "The BASIN, HEIRS' SHARES, the week are held in a SLOT")
    static void p33_threeSlots(Check c) {
        ThimbleSea sea = Check.sea(XYZ.replace("18", "900"));
        for (int slot = 0; slot < 3; slot++) {
            sea.run(slot + 1);
            sea.merge(slot, (slot + 1) % 3);
            sea.hold(slot);
        }
        int[] weeks = {1, 3, 6};
        int[][] shares = {{0, 5, 4}, {0, 0, 9}, {9, 0, 0}};
        for (int slot = 2; slot >= 0; slot--) {
            c.due("restore(" + slot + ")", sea.restore(slot), true);
            c.due("count(4) of slot " + slot, sea.count(4), weeks[slot]);
            c.due("count(5) of slot " + slot, sea.count(5), weeks[slot] * 21);
            c.due("salt() of slot " + slot, sea.salt(), weeks[slot] * (21 + 70));
            for (int heir = 0; heir < 3; heir++) {
                c.due("SHARE of " + heir + " in slot " + slot, sea.heir(heir, 2), shares[slot][heir]);
            }
        }
    }

    // ---- Promise 34 -------------------------------------------------------------------------------

    @Sentence(promise = 34, says = "They go on from what a SLOT holds (that stays there; nothing can be undone then): true;")
    static void p34_thatStaysThere(Check c) {
        ThimbleSea sea = aWeek();
        sea.hold(2);
        sea.run(3);
        sea.tell(4, 4);
        c.due("count(9)", sea.count(9), 2);
        for (int times = 0; times < 3; times++) {
            c.due("restore(2)", sea.restore(2), true);
            c.due("count(4)", sea.count(4), 1);
            drops(c, sea, 7, 5, 0, 6, 0, 0);
            c.due("count(9), nothing can be undone", sea.count(9), 0);
            c.due("undo()", sea.undo(), false);
            c.due("count(11), that stays there", sea.count(11), 1);
            c.due("count(10), what is TOLD stays", sea.count(10), 1);
            sea.spoon(7);
            sea.merge(0, 1);
            c.due("count(9) of what is done then", sea.count(9), 2);
            c.due("undo() of what is done then", sea.undo(), true);
            c.due("undo() of what is done then", sea.undo(), true);
            c.due("undo() no further", sea.undo(), false);
            c.due("run(2)", sea.run(2), 3);
        }
        ThimbleSea begun = Check.sea(XYZ);
        begun.hold(0);
        begun.run(2);
        begun.restore(0);
        c.due("count(4) of the begin", begun.count(4), 0);
        c.due("count(5) of the begin", begun.count(5), 0);
        c.due("heir(0, 3) of the begin", begun.heir(0, 3), 0);
    }

    @Sentence(promise = 34, says = "false, and nothing happens: no such one, nothing is held.")
    static void p34_nothingIsHeld(Check c) {
        for (int slot : new int[] {1, 3, 4, -1, MIN, MAX}) {
            Unchanged.by(c, "restore(" + slot + ")", sea -> c.due("restore(" + slot + ")", sea.restore(slot), false));
        }
        for (int slot : new int[] {0, 2}) {
            ThimbleSea fresh = new ThimbleSea();
            fresh.run(1);
            c.due("restore(" + slot + ") where nothing is held", fresh.restore(slot), false);
            c.due("count(9) stays", fresh.count(9), 1);
            c.due("restore(" + slot + ") of the busy one", Unchanged.busy().restore(slot), true);
        }
    }
}
