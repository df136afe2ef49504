/** Promises 1 to 5: a new object, feed, back, read, place. */
public final class TextTest {
    private static final Check CHECK = new Check("TextTest");

    public static void main(String[] args) {
        newObject();
        tape();
        faultsOfForm();
        faultsOfRoom();
        faultsOfMeaning();
        aFaultChangesNothing();
        aTextReplacesAll();
        textsInTurn();
        CHECK.end();
    }

    private static void fault(String text, int fault, int place) {
        ThimbleSea sea = new ThimbleSea();
        Check.feed(sea, text);
        String shown = text.length() > 90 ? text.substring(0, 90) + " .." : text;
        CHECK.due("bytes of " + shown, sea.count(8), text.length());
        CHECK.due("read() of " + shown, sea.read(), fault);
        CHECK.due("place() of " + shown, sea.place(), place);
        CHECK.due("count(8) behind " + shown, sea.count(8), 0);
    }

    private static void fine(String text) {
        fault(text, 0, -1);
    }

    private static void newObject() {
        ThimbleSea sea = new ThimbleSea();
        CHECK.due("NONE", ThimbleSea.NONE, -1);
        for (int what = 0; what <= 12; what++) {
            CHECK.due("count(" + what + ")", sea.count(what), what == 6 ? 999 : 0);
        }
        CHECK.due("place()", sea.place(), -1);
        CHECK.due("drops(-1, -1)", sea.drops(-1, -1), 0);
        CHECK.due("salt()", sea.salt(), 0);
        CHECK.due("undo()", sea.undo(), false);
        CHECK.due("restore(0)", sea.restore(0), false);
        CHECK.due("forget()", sea.forget(), 0);
        CHECK.due("league()", sea.league(), -2);
    }

    private static void tape() {
        ThimbleSea sea = new ThimbleSea();
        for (int i = 1; i <= 100; i++) {
            CHECK.due("feed " + i, sea.feed(0x20202020, 0x20202020, 0x20202020, 0x20202020, 0x20202020), 20 * i);
        }
        CHECK.due("feed 101", sea.feed(0, 0, 0, 0, 0), -1);
        CHECK.due("count(8)", sea.count(8), 2000);
        CHECK.due("back(2001)", sea.back(2001), -1);
        CHECK.due("back(-1)", sea.back(-1), -1);
        CHECK.due("back(min)", sea.back(Integer.MIN_VALUE), -1);
        CHECK.due("back(0)", sea.back(0), 2000);
        CHECK.due("back(19)", sea.back(19), 1981);
        CHECK.due("feed to 2001", sea.feed(0, 0, 0, 0, 0), -1);
        CHECK.due("back(1)", sea.back(1), 1980);
        CHECK.due("feed to 2000", sea.feed(0x20202020, 0x20202020, 0x20202020, 0x20202020, 0x20202020), 2000);
        CHECK.due("read() of blanks", sea.read(), 0);
        CHECK.due("count(8)", sea.count(8), 0);
        CHECK.due("back(1) of none", sea.back(1), -1);
        CHECK.due("back(0) of none", sea.back(0), 0);
        // the highest byte first: "seed 12;" and blanks, then one byte gone at a time
        CHECK.due("feed seed", sea.feed(0x73656564, 0x20313233, 0x343b2020, 0x20202020, 0x20202021), 20);
        CHECK.due("read() with !", sea.read(), 1);
        CHECK.due("place() of !", sea.place(), 19);
        sea.feed(0x73656564, 0x20313233, 0x343b2020, 0x20202020, 0x20202021);
        sea.back(1);
        CHECK.due("read() without !", sea.read(), 0);
        CHECK.due("place()", sea.place(), -1);
    }

    private static void faultsOfForm() {
        fine("");
        fine(" \t\r\n");
        fine("seed 1;");
        fine("seed1;");
        fine("seed1;basin2;dry=3;");
        fault("\0", 1, 0);
        fault((char) 160 + "seed 1;", 1, 0);
        fault("seed 1;" + (char) 255, 1, 7);
        fault("\f", 1, 0);
        fault("x", 1, 0);
        fault(";", 1, 0);
        fault("seed", 1, 4);
        fault("seed ", 1, 5);
        fault("seed 1", 1, 6);
        fault("seed ;", 1, 5);
        fault("seed 12345;", 1, 5);
        fault("seed 00000;", 1, 5);
        fault("seed -1;", 1, 5);
        fault("Seed 1;", 1, 0);
        fault("seeds 1;", 1, 0);
        fault("water abcdefghi 1 1;", 1, 6);
        fine("water abcdefgh 1 1;");
        fine("water a1 1;");
        fault("water a11;", 1, 9);
        fault("water a 1 1 1;", 1, 12);
        fault("water lot 1 1;", 1, 6);
        fault("water of 1 1;", 1, 6);
        fine("water waters 1 1;");
        fault("heir h 1 1 1;", 1, 12);
        fault("dry 1;", 1, 4);
        fault("dry = ;", 1, 6);
        fault("dry = 1 2;", 1, 8);
        fault("dry = x;", 1, 6);
        fault("dry = - 1;", 1, 6);
        fault("dry = (1;", 1, 8);
        fault("dry = 1);", 1, 7);
        fault("dry = ();", 1, 7);
        fault("dry = 1 +;", 1, 9);
        fault("dry = 1 < 2;", 1, 8);
        fault("dry = if 1 then 2 else 3;", 1, 11);
        fault("dry = if 1 < 2 then 2;", 1, 21);
        fault("dry = if 1 < 2 < 3 then 2 else 1;", 1, 15);
        fault("dry = (if 1 < 2 then 2 else 1);", 1, 7);
        fine("dry = if 1 < 2 then 2 else if 2 < 3 then 4 else 5;");
        fine("dry=1+2*(3-week)/level-salt*share+sent-lot;");
        fault("heir h 1 1 1 1; claim c = ;", 1, 26);
        fault("heir h 1 1 1 1; claim c = 1 of 2 h +;", 1, 36);
        fault("heir h 1 1 1 1; claim c = 1 of 2 h - 1 of 2 h;", 1, 35);
        fault("basin of;", 1, 6);
        fault("water w 1 1; sends w", 1, 20);
    }

    private static String times(int n, String part) {
        StringBuilder text = new StringBuilder();
        for (int i = 0; i < n; i++) {
            text.append(part.replace('#', (char) ('a' + i)));
        }
        return text.toString();
    }

    private static void faultsOfRoom() {
        fine(times(5, "water w# 1 1;"));
        fault(times(6, "water w# 1 1;"), 2, 65);
        fault(times(5, "water w# 1 1;") + "water ;", 2, 65);
        fine(times(8, "heir h# 1 1 1 1;"));
        fault(times(9, "heir h# 1 1 1 1;"), 2, 128);
        String both = "heir h 1 1 1 1;water w 1 1;";
        fine(both + times(16, "sends h w = 1;"));
        fault(both + times(17, "sends h w = 1;"), 2, 27 + 16 * 14);
        fine(both + times(6, "claim c# = 1 of 1 h;"));
        fault(both + times(7, "claim c# = 1 of 1 h;"), 2, 27 + 6 * 20);
        fine(both + "claim c = 1 of 1 h" + times(5, " + 1 of 1 h") + ";");
        fault(both + "claim c = 1 of 1 h" + times(6, " + 1 of 1 h") + ";", 2, 27 + 18 + 55 + 3);
        fault(both + "claim c = 1 of 1 h" + times(5, " + 1 of 1 h") + "+;", 1, 27 + 18 + 55 + 1);
        fine("dry = " + times(4, "if 1 < 2 then 3 else ") + "1;");
        fault("dry = " + times(5, "if 1 < 2 then 3 else ") + "1;", 2, 6 + 4 * 21);
        fine("dry = " + times(6, "(") + "1" + times(6, ")") + ";");
        fine("dry = " + times(6, "(") + "1" + times(6, ")") + "*" + times(6, "(") + "1" + times(6, ")") + ";");
        String six = times(6, "(") + "1" + times(6, ")");
        fine("dry = if " + six + "<" + six + " then " + six + " else " + six + ";");
        fault("dry = if (" + six + ")", 2, 15);
        fault("dry = if 1 < (" + six + ")", 2, 19);
        fault("dry = if 1 < 2 then (" + six + ")", 2, 26);
        fault("dry = if 1 < 2 then 3 else (" + six + ")", 2, 33);
        fault("dry = " + times(7, "(") + "1" + times(7, ")") + ";", 2, 12);
        fault("dry = 1" + times(7, "("), 1, 7);
        fault("dry = " + times(8, "("), 2, 12);
        // 400 TOKENS are the most: 133 times three and one more
        fine(times(133, "seed 1;"));
        fault(times(133, "seed 1;") + "seed", 1, 935);
        fault(times(133, "seed 1;") + "seed 1;", 2, 936);
        fault(times(133, "seed 1;") + "seed;", 1, 935);
        fault(times(133, "seed 1;") + "seed !", 1, 936);
        fault(times(132, "seed 1;") + "dry=1;seed 1;", 2, 930);
        fine(times(132, "seed 1;") + "dry=1;");
        fault(times(132, "seed 1;") + "dry=1;x", 1, 930);
        fault(times(132, "seed 1;") + "dry=1; ABC", 1, 931);
        fault("dry = 1" + times(300, "+ 1") + ";", 2, 7 + 198 * 3 + 2);
        // a fault of form or room comes ahead of all of meaning
        fault("water w 100 1; water w 1 1; x", 1, 28);
        fault("water w 100 1;" + times(5, "water w# 1 1;"), 2, 14 + 4 * 13);
    }

    private static void faultsOfMeaning() {
        fault("water w 1 1; water w 1 1;", 3, 19);
        fault("water w 1 1; heir w 1 1 1 1;", 3, 18);
        fault("heir h 1 1 1 1; claim h = 1 of 1 h;", 3, 22);
        fault("heir h 1 1 1 1; claim c = 1 of 1 h; claim c = 1 of 1 h;", 3, 42);
        fault("water w 100 1; water w 1 1;", 5, 8);
        fault("water w 1 1; sends h w = 1; heir h 1 1 1 1;", 4, 19);
        fault("water w 1 1; sends w w = 1;", 4, 19);
        fault("heir h 1 1 1 1; sends h h = 1;", 4, 24);
        fault("heir h 1 1 1 1; sends h w = 1;", 4, 24);
        fault("claim c = 1 of 1 c;", 4, 17);
        fault("water w 1 1; claim c = 1 of 1 w;", 4, 30);
        fault("claim c = 0 of 1 c;", 5, 10);
        fault("heir h 1 1 1 1; claim c = 100 of 1 h;", 5, 26);
        fault("heir h 1 1 1 1; claim c = 1 of 0 h;", 5, 31);
        fault("heir h 1 1 1 1; claim c = 1 of 100 h;", 5, 31);
        fine("heir h 1 1 1 1; claim c = 99 of 1 h + 1 of 99 h;");
        fault("water w 100 1;", 5, 8);
        fault("water w 99 10;", 5, 11);
        fine("water w 0 0; water v 99 9; water u 0099 0009;");
        fault("heir h 0 1 1 1;", 5, 7);
        fault("heir h 100 1 1 1;", 5, 7);
        fault("heir h 99 100 1 1;", 5, 10);
        fault("heir h 1 1 1000 1;", 5, 11);
        fault("heir h 1 1 1 1000;", 5, 13);
        fine("heir h 99 99 999 999; heir g 1 0 0 0;");
        fault("basin 0;", 5, 6);
        fault("basin 0; basin 3;", 5, 6);
        fine("basin 1; basin 9999;");
        fine("seed 0; seed 9999;");
        fine("dry = 9999 + 0;");
    }

    private static void aFaultChangesNothing() {
        ThimbleSea sea = Check.sea("water w 2 1; heir h 3 1 1 1; heir g 1 1 1 1; sends h w = 5; basin 8; claim c = 1 of 2 h;");
        sea.run(2);
        sea.tell(3, 4);
        sea.hold(1);
        int[] before = new int[13];
        for (int what = 0; what < 13; what++) {
            before[what] = sea.count(what);
        }
        for (String text : new String[] {"heir a 1 1 1 1; basin 0;", "water a 1 1; x", "basin 7; sends h w = 1;"}) {
            Check.feed(sea, text);
            CHECK.due("read() of a fault", sea.read() > 0, true);
            for (int what = 0; what < 13; what++) {
                CHECK.due("count(" + what + ") behind a fault", sea.count(what), before[what]);
            }
            CHECK.due("tells(0)", sea.tells(0), 5);
            CHECK.due("heir(0, 1)", sea.heir(0, 1), 2);
            CHECK.due("heir(0, 2)", sea.heir(0, 2), 3);
        }
        CHECK.due("run(1) behind a fault", sea.run(1), 3);
        CHECK.due("undo() behind a fault", sea.undo(), true);
        CHECK.due("undo() again", sea.undo(), true);
        CHECK.due("count(4)", sea.count(4), 0);
        CHECK.due("restore(1)", sea.restore(1), true);
        CHECK.due("count(4)", sea.count(4), 2);
    }

    /** Nothing of an earlier text comes back with a later one. */
    private static void textsInTurn() {
        String full = "water a 2 1; water b 1 1; heir x 3 1 1 9; heir y 4 1 1 9; sends x a = 5; sends y b = 6; dry = 1; basin 50;"
            + "seed 9; claim c = 1 of 2 x + 1 of 1 y; claim d = 1 of 1 x;";
        ThimbleSea sea = Check.sea(full);
        Check.feed(sea, full);
        CHECK.due("read() of the same again", sea.read(), 0);
        sea.run(3);
        Check.feed(sea, "basin 60; basin 0;");
        CHECK.due("read() of a fault", sea.read(), 5);
        CHECK.due("tells(1) stays", sea.tells(1), 6);
        CHECK.due("claim(0, false) stays", sea.claim(0, false) * 2, sea.claim(0, true) * (sea.heir(0, 0) + 2 * sea.heir(1, 0)));
        Check.feed(sea, "");
        CHECK.due("read() of nothing", sea.read(), 0);
        for (int what = 0; what < 13; what++) {
            CHECK.due("count(" + what + ") of nothing", sea.count(what), what == 6 ? 999 : 0);
        }
        CHECK.due("salt()", sea.salt(), 0);
        CHECK.due("drops(-1, -1)", sea.drops(-1, -1), 0);
        Check.feed(sea, "heir x 5 1 1 1; water a 3 1; sends x a = lot / 11; claim c = 2 of 1 x;");
        CHECK.due("read() of a small one", sea.read(), 0);
        CHECK.due("drops(0, 0)", sea.drops(0, 0), 0);
        CHECK.due("heir(0, 2)", sea.heir(0, 2), 5);
        CHECK.due("heir(0, 3)", sea.heir(0, 3), 0);
        int sent = sea.tells(0);
        CHECK.due("tells(0) of seed 0", sent, Check.sea("heir x 5 1 1 1; water a 3 1; sends x a = lot / 11;").tells(0));
        sea.run(1);
        CHECK.due("count(5), no dry", sea.count(5), sent);
        CHECK.due("claim(0, false)", sea.claim(0, false), 2 * sent);
        CHECK.due("claim(1, false)", sea.claim(1, false), -1);
        String longLaw = "water a 1 1; heir x 1 1 1 1; sends x a = 7" + times(150, "+1") + " - 100;";
        for (int i = 0; i < 12; i++) {
            Check.feed(sea, longLaw);
            CHECK.due("read() of a long law, " + i, sea.read(), 0);
            CHECK.due("tells(0) of a long law, " + i, sea.tells(0), 57);
        }
    }

    private static void aTextReplacesAll() {
        ThimbleSea sea = Check.sea("water w 2 1; heir h 3 1 1 1; sends h w = 5; dry = 1; basin 8; seed 5;");
        sea.run(3);
        sea.tell(3, 4);
        sea.hold(0);
        sea.hold(2);
        CHECK.due("count(11)", sea.count(11), 2);
        CHECK.due("thimble(1, 2, 1)", sea.thimble(1, 2, 1), 1);
        Check.feed(sea, "water a 3 1; water b 2 1; heir h 4 1 1 1;");
        CHECK.due("read()", sea.read(), 0);
        int[] want = {2, 1, 0, 0, 0, 0, 999, 0, 0, 0, 0, 0, 0};
        for (int what = 0; what < 13; what++) {
            CHECK.due("count(" + what + ") of the next text", sea.count(what), want[what]);
        }
        CHECK.due("heir(0, 3)", sea.heir(0, 3), 0);
        CHECK.due("heir(0, 2)", sea.heir(0, 2), 4);
        CHECK.due("restore(0)", sea.restore(0), false);
        CHECK.due("undo()", sea.undo(), false);
        CHECK.due("firstRow(1, 2, 1, 0)", sea.firstRow(1, 2, 1, 0), 0);
        CHECK.due("firstRow(1, 2, 1, 1)", sea.firstRow(1, 2, 1, 1), 1);
        CHECK.due("run(1)", sea.run(1), 1);
        CHECK.due("count(5), no dry", sea.count(5), 0);
    }
}
