/** What the document says of levels that were told, at their bounds: promises 29 to 32. */
public final class ToldBoundsTest {
    private static final int MIN = Integer.MIN_VALUE;
    private static final int MAX = Integer.MAX_VALUE;
    /** 9 more behind each week: 4 by x, 5 by y, none by z. */
    private static final String XYZ = "water a 1 1; heir x 1 1 1 1; heir y 1 1 1 1; heir z 1 1 1 1; sends x a = 3; sends y a = 5; sends x a = 1;";

    public static void main(String[] args) throws Exception {
        Sentences.run(ToldBoundsTest.class);
    }

    private static ThimbleSea told(String text, int... weeksAndLevels) {
        ThimbleSea sea = Check.sea(text);
        for (int i = 0; i < weeksAndLevels.length; i += 2) {
            sea.tell(weeksAndLevels[i], weeksAndLevels[i + 1]);
        }
        return sea;
    }

    private static void explains(Check c, ThimbleSea sea, int k, int... want) {
        c.due("explains(" + k + ", -1)", sea.explains(k, -1), want.length);
        for (int i = 0; i < want.length; i++) {
            c.due("explains(" + k + ", " + i + ")", sea.explains(k, i), want[i]);
        }
        c.due("explains(" + k + ", " + want.length + "), not so many", sea.explains(k, want.length), -1);
    }

    // ---- Promise 29 -------------------------------------------------------------------------------

    @Sentence(promise = 29, says = "TOLD levels: how many drops there were behind a week (behind week 0 and more; 0 .. 99), 20 at most, numbered from 0 on;")
    static void p29_20AtMostNumberedFrom0On(Check c) {
        ThimbleSea sea = new ThimbleSea();
        for (int i = 0; i < 20; i++) {
            c.due("count(10)", sea.count(10), i);
            c.due("tell(5, 7), the " + i + "th", sea.tell(5, 7), i);
        }
        c.due("count(10)", sea.count(10), 20);
        c.due("tell(5, 7), a 21st", sea.tell(5, 7), -1);
        c.due("tell(0, 0), a 21st", sea.tell(0, 0), -1);
        c.due("count(10)", sea.count(10), 20);
    }

    @Sentence(promise = 29, says = "A level (0 .. 9999) is TOLD of a week: its number; NONE, and nothing happens: 20 are there, no such ones.")
    static void p29_bothSidesOfEachBound(Check c) {
        ThimbleSea sea = new ThimbleSea();
        c.due("tell(0, 0)", sea.tell(0, 0), 0);
        c.due("tell(99, 0)", sea.tell(99, 0), 1);
        c.due("tell(0, 9999)", sea.tell(0, 9999), 2);
        c.due("tell(99, 9999)", sea.tell(99, 9999), 3);
        c.due("tell(1, 1)", sea.tell(1, 1), 4);
        int[][] wrong = {{-1, 5}, {100, 5}, {5, -1}, {5, 10000}, {-1, -1}, {100, 10000}, {MIN, 5}, {MAX, 5}, {5, MIN}, {5, MAX}};
        for (int[] w : wrong) {
            String call = "tell(" + w[0] + ", " + w[1] + ")";
            c.due(call, sea.tell(w[0], w[1]), -1);
            Unchanged.by(c, call, busy -> busy.tell(w[0], w[1]));
        }
        c.due("tell(98, 9998)", sea.tell(98, 9998), 5);
    }

    private static ThimbleSea twentyTold() {
        ThimbleSea sea = Unchanged.busy();
        for (int i = 3; i < 20; i++) {
            sea.tell(i, i);
        }
        return sea;
    }

    @Sentence(promise = 29, says = "NONE, and nothing happens: 20 are there, no such ones.")
    static void p29_20AreThere(Check c) {
        c.due("count(10)", twentyTold().count(10), 20);
        Unchanged.by(c, "tell(1, 24), a 21st", ToldBoundsTest::twentyTold, sea -> c.due("tell(1, 24), a 21st", sea.tell(1, 24), -1));
        ThimbleSea sea = twentyTold();
        c.due("forged(20)", sea.forged(20) >= 0, true);
        c.due("forged(21)", sea.forged(21), -1);
    }

    // ---- Promise 30 -------------------------------------------------------------------------------

    @Sentence(promise = 30, says = "All that was TOLD is forgotten: how many there were.")
    static void p30_allIsForgotten(Check c) {
        ThimbleSea sea = Check.sea(XYZ);
        c.due("forget() of none", sea.forget(), 0);
        sea.tell(0, 1);
        c.due("forged(1)", sea.forged(1), 0);
        explains(c, sea, 1);
        c.due("forget() of one", sea.forget(), 1);
        c.due("forget() again", sea.forget(), 0);
        c.due("count(10)", sea.count(10), 0);
        c.due("forged(1), not told any more", sea.forged(1), -1);
        c.due("explains(1, -1), not told any more", sea.explains(1, -1), -1);
        c.due("tell(0, 5), numbered from 0 again", sea.tell(0, 5), 0);
        explains(c, sea, 1, 0);
        for (int i = 1; i < 20; i++) {
            sea.tell(i, i);
        }
        c.due("tell(1, 1), a 21st", sea.tell(1, 1), -1);
        c.due("forget() of twenty", sea.forget(), 20);
        c.due("tell(1, 1)", sea.tell(1, 1), 0);
        // nothing else is forgotten
        ThimbleSea busy = Unchanged.busy();
        busy.forget();
        c.due("count(9) stays", busy.count(9), 6);
        c.due("count(11) stays", busy.count(11), 2);
        c.due("count(8) stays", busy.count(8), 42);
    }

    // ---- Promise 31 -------------------------------------------------------------------------------

    @Sentence(promise = 31, says = "FORGED: the first TOLD one that is not so.")
    static void p31_theFirstThatIsNotSo(Check c) {
        // 9, 18, 27, .. behind week 0, 1, 2, ..: by their numbers, not by weeks
        ThimbleSea sea = told(XYZ, 2, 27, 1, 17, 0, 8, 1, 18);
        c.due("forged(1)", sea.forged(1), -2);
        c.due("forged(2)", sea.forged(2), 1);
        c.due("forged(3)", sea.forged(3), 1);
        c.due("forged(4)", sea.forged(4), 1);
        c.due("forged(1) of one less", told(XYZ, 0, 8).forged(1), 0);
        c.due("forged(1) of so many", told(XYZ, 0, 9).forged(1), -2);
        c.due("forged(1) of one more", told(XYZ, 0, 10).forged(1), 0);
        // behind week 0 is behind one week
        c.due("forged(1) of nothing behind week 0", told(XYZ, 0, 0).forged(1), 0);
        c.due("forged(1) of week 99", told(XYZ, 99, 900).forged(1), -2);
        c.due("forged(1) of week 99 and one more", told(XYZ, 99, 901).forged(1), 0);
        c.due("forged(2) of two of one week", told(XYZ, 3, 36, 3, 35).forged(2), 1);
        c.due("forged(1) of nobody", told("", 7, 0).forged(1), -2);
        c.due("forged(1) of nobody's drop", told("", 7, 1).forged(1), 0);
        // all that dries up is not there
        c.due("forged(1) with DRY", told(XYZ + "dry = 2;", 1, 14).forged(1), -2);
        c.due("forged(1) of a full BASIN", told(XYZ + "basin 9999; sends z a = 99; sends z a = 99;", 99, 9999).forged(1), -2);
    }

    @Sentence(promise = 31, says = "KNOWN by k: the first k.")
    static void p31_theFirstK(Check c) {
        ThimbleSea sea = told(XYZ, 0, 9, 1, 18, 2, 28, 3, 35);
        c.due("forged(0)", sea.forged(0), -2);
        c.due("forged(2)", sea.forged(2), -2);
        c.due("forged(3)", sea.forged(3), 2);
        c.due("forged(4)", sea.forged(4), 2);
        explains(c, sea, 0);
        explains(c, sea, 1, 200);
        explains(c, sea, 2, 200, 201);
        explains(c, sea, 3);
        explains(c, sea, 2, 200, 201);
        ThimbleSea first = told(XYZ, 0, 5, 0, 4);
        explains(c, first, 1, 0);
        explains(c, first, 0);
        explains(c, first, 1, 0);
        explains(c, first, 2);
        explains(c, first, 0);
        first.forget();
        first.tell(0, 4);
        explains(c, first, 1, 100);
        first.forget();
        explains(c, first, 0);
    }

    @Sentence(promise = 31, says = "FORGED, as KNOWN by k; -2: none is; NONE: no such k.")
    static void p31_noSuchK(Check c) {
        ThimbleSea sea = told(XYZ, 0, 9, 0, 8);
        c.due("forged(0)", sea.forged(0), -2);
        c.due("forged(1)", sea.forged(1), -2);
        c.due("forged(2)", sea.forged(2), 1);
        for (int no : new int[] {3, 20, 21, -1, -2, MIN, MAX}) {
            c.due("forged(" + no + ")", sea.forged(no), -1);
        }
        c.due("forged(0) of a new object", new ThimbleSea().forged(0), -2);
        c.due("forged(1) of a new object", new ThimbleSea().forged(1), -1);
        Unchanged.by(c, "forged(3)", busy -> busy.forged(3));
    }

    @Sentence(promise = 31, says = "From the text's begin, nothing done by hand:")
    static void p31_nothingDoneByHand(Check c) {
        ThimbleSea sea = told(XYZ.replace("= 1", "= share"), 1, 18);
        sea.run(1);
        sea.merge(0, 1);
        sea.spoon(3);
        sea.hold(0);
        sea.run(4);
        c.due("forged(1)", sea.forged(1), -2);
        explains(c, sea, 1, 200, 201);
        c.due("count(4) stays", sea.count(4), 5);
        c.due("SHARE of x stays", sea.heir(0, 2), 0);
        sea.restore(0);
        c.due("forged(1) behind restore()", sea.forged(1), -2);
        sea.undo();
        c.due("forged(1) behind undo()", sea.forged(1), -2);
    }

    // ---- Promise 32 -------------------------------------------------------------------------------

    @Sentence(promise = 32, says = "EXPLAINS: an HEIR, a week of these (0 .. 99): if all his SENDS of that week told 0, all that is KNOWN is so: how many such there are, which.")
    static void p32_ifAllHisSendsTold0(Check c) {
        // behind week 3 there would be 36: 4 lack, both that x sends
        explains(c, told(XYZ, 3, 32), 1, 0, 1, 2, 3);
        explains(c, told(XYZ, 3, 31), 1, 100, 101, 102, 103);
        explains(c, told(XYZ, 3, 33), 1);
        explains(c, told(XYZ, 3, 35), 1);
        explains(c, told(XYZ, 3, 27), 1);
        explains(c, told(XYZ, 3, 36), 1, 200, 201, 202, 203);
        explains(c, told(XYZ, 3, 32, 1, 18), 2, 2, 3);
        explains(c, told(XYZ, 3, 32, 1, 14), 2, 0, 1);
        explains(c, told(XYZ, 3, 32, 1, 14, 0, 9), 3, 1);
        explains(c, told(XYZ, 3, 32, 1, 17), 2);
        explains(c, told(XYZ, 3, 32, 3, 31), 2);
        // in that week alone
        explains(c, told(XYZ, 0, 5, 1, 10), 2);
        explains(c, told(XYZ, 0, 5, 1, 14), 2, 0);
        // what others send by it may be more
        String more = XYZ.replace("sends y a = 5", "sends y a = if level < 1 then 50 else 5");
        explains(c, told(more, 0, 51, 1, 60), 2);
        explains(c, told(more, 0, 50, 1, 59), 2, 0);
    }

    @Sentence(promise = 32, says = "EXPLAINS, as KNOWN by k: how many (i NONE), else the i-th by HEIRS, then weeks: 100 * the HEIR + the week;")
    static void p32_byHeirsThenWeeks(Check c) {
        String eight = "water a 1 1;" + Check.times(8, "heir h# 1 1 1 1;");
        ThimbleSea all = told(eight, 99, 0);
        c.due("explains(1, -1) of all", all.explains(1, -1), 800);
        for (int i : new int[] {0, 1, 99, 100, 101, 199, 200, 555, 700, 798, 799}) {
            c.due("explains(1, " + i + ") of all", all.explains(1, i), i);
        }
        c.due("explains(1, 800) of all", all.explains(1, 800), -1);
        explains(c, told(eight, 0, 0), 1, 0, 100, 200, 300, 400, 500, 600, 700);
        // alike ones: by HEIRS first
        explains(c, told(XYZ + "sends z a = 4;", 1, 22), 1, 0, 1, 200, 201);
    }

    @Sentence(promise = 32, says = "NONE: no such ones, not so many.")
    static void p32_noSuchOnes(Check c) {
        ThimbleSea sea = told(XYZ, 1, 14, 0, 9);
        c.due("explains(2, -1)", sea.explains(2, -1), 1);
        c.due("explains(2, 0)", sea.explains(2, 0), 1);
        for (int no : new int[] {1, 2, 800, -2, -3, MIN, MAX}) {
            c.due("explains(2, " + no + ")", sea.explains(2, no), -1);
        }
        for (int no : new int[] {3, 20, 21, -1, -2, MIN, MAX}) {
            c.due("explains(" + no + ", -1)", sea.explains(no, -1), -1);
            c.due("explains(" + no + ", 0)", sea.explains(no, 0), -1);
        }
        explains(c, sea, 0);
        c.due("explains(0, -1) of a new object", new ThimbleSea().explains(0, -1), 0);
        c.due("explains(0, 0) of a new object", new ThimbleSea().explains(0, 0), -1);
        c.due("explains(1, -1) of a new object", new ThimbleSea().explains(1, -1), -1);
        // without HEIRS nobody explains what is so
        explains(c, told("", 3, 0), 1);
        Unchanged.by(c, "explains(3, 0)", busy -> busy.explains(3, 0));
    }

    @Sentence(promise = 32, says = "(Weeks up to the last one KNOWN.)")
    static void p32_weeksUpToTheLastOneKnown(Check c) {
        explains(c, told(XYZ, 0, 4), 1, 100);
        explains(c, told(XYZ, 0, 9), 1, 200);
        explains(c, told(XYZ, 1, 18), 1, 200, 201);
        // the last one is the latest week, wherever it was told
        explains(c, told(XYZ, 1, 18, 0, 9), 2, 200, 201);
        explains(c, told(XYZ, 2, 27, 0, 9, 1, 18), 3, 101 + 99, 201, 202);
        // one told behind the first k is not KNOWN
        explains(c, told(XYZ, 0, 9, 5, 54), 1, 200);
        ThimbleSea late = told(XYZ, 99, 895);
        c.due("explains(1, -1) of week 99", late.explains(1, -1), 100);
        c.due("explains(1, 99) of week 99", late.explains(1, 99), 199);
        c.due("explains(1, 100) of week 99", late.explains(1, 100), -1);
        explains(c, told(XYZ, 98, 891, 99, 895), 2, 199);
    }
}
