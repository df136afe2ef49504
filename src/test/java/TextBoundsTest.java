import java.util.List;
import java.util.function.Function;

/** What the document says of the tape and of texts, at their bounds: promises 1 to 5. */
public final class TextBoundsTest {
    private static final int MIN = Integer.MIN_VALUE;
    private static final int MAX = Integer.MAX_VALUE;
    private static final int BLANKS = 0x20202020;
    private static final String WORDS = "water heir sends dry basin claim seed of if then else week level salt share sent lot";
    private static final String BOTH = "heir h 1 1 1 1; water w 1 1; ";
    private static final String SIX = "((((((1))))))";

    public static void main(String[] args) throws Exception {
        Sentences.run(TextBoundsTest.class);
    }

    private static void fault(Check c, String text, int fault, int place) {
        ThimbleSea sea = new ThimbleSea();
        Check.feed(sea, text);
        String shown = Check.brief(text);
        c.due("count(8) of " + shown, sea.count(8), text.length());
        c.due("read() of " + shown, sea.read(), fault);
        c.due("place() of " + shown, sea.place(), place);
    }

    private static void fine(Check c, String text) {
        fault(c, text, 0, -1);
    }

    private static String times(int n, String part) {
        return Check.times(n, part);
    }

    // ---- Promise 1 --------------------------------------------------------------------------------

    @Sentence(promise = 1, says = "Nothing is told.")
    static void p01_nothingIsTold(Check c) {
        ThimbleSea sea = new ThimbleSea();
        c.due("NONE", ThimbleSea.NONE, -1);
        for (int what = 0; what <= 12; what++) {
            c.due("count(" + what + ")", sea.count(what), what == 6 ? 999 : 0);
        }
        c.due("place()", sea.place(), -1);
        c.due("heir(0, 0)", sea.heir(0, 0), -1);
        c.due("drops(-1, -1)", sea.drops(-1, -1), 0);
        c.due("drops(0, -1)", sea.drops(0, -1), -1);
        c.due("drops(-1, 0)", sea.drops(-1, 0), -1);
        c.due("salt()", sea.salt(), 0);
        c.due("owns(0, true)", sea.owns(0, true), -1);
        c.due("claim(0, true)", sea.claim(0, true), -1);
        c.due("ranked(0)", sea.ranked(0), -1);
        c.due("tells(0)", sea.tells(0), -1);
        c.due("merge(0, 1)", sea.merge(0, 1), -1);
        c.due("split(0, 1, 1, 2)", sea.split(0, 1, 1, 2), -1);
        c.due("spoon(1)", sea.spoon(1), -1);
        c.due("undo()", sea.undo(), false);
        for (int slot = 0; slot < 3; slot++) {
            c.due("restore(" + slot + ")", sea.restore(slot), false);
        }
        c.due("back(1)", sea.back(1), -1);
        c.due("forget()", sea.forget(), 0);
    }

    @Sentence(promise = 1, says = "Nothing is told.")
    static void p01_nothingCouldBe(Check c) {
        ThimbleSea sea = new ThimbleSea();
        c.due("enough(0)", sea.enough(0), 0);
        c.due("enough(1)", sea.enough(1), -2);
        c.due("salty(0)", sea.salty(0), 0);
        c.due("salty(1)", sea.salty(1), -2);
        c.due("crossed(1, 1, 0)", sea.crossed(1, 1, 0), -2);
        c.due("league()", sea.league(), -2);
        c.due("power(0)", sea.power(0), -1);
        c.due("without(0, 1, -1)", sea.without(0, 1, -1), -1000000);
        c.due("asked(1, 0)", sea.asked(1, 0), -2);
        c.due("gives(1, 0)", sea.gives(1, 0), -1);
        c.due("thimble(0, 0, 0)", sea.thimble(0, 0, 0), 1);
        c.due("thimble(1, 0, 0)", sea.thimble(1, 0, 0), 0);
        c.due("surely(0, 0, 0)", sea.surely(0, 0, 0), 0);
        c.due("firstRow(0, 0, 0, 0)", sea.firstRow(0, 0, 0, 0), -1);
        c.due("forged(0)", sea.forged(0), -2);
        c.due("explains(0, -1)", sea.explains(0, -1), 0);
        c.due("read()", sea.read(), 0);
        c.due("run(5)", sea.run(5), 5);
        c.due("tell(0, 0)", sea.tell(0, 0), 0);
        c.due("hold(0)", sea.hold(0), true);
    }

    @Sentence(promise = 1, says = "Nothing is told.")
    static void p01_oneObjectIsNotAnother(Check c) {
        ThimbleSea other = new ThimbleSea();
        Check.feed(other, "seed ");
        ThimbleSea busy = Unchanged.busy();
        c.alike("a new object beside a busy one", Unchanged.shown(new ThimbleSea()), Unchanged.shown(Check.sea("")));
        c.due("count(8) of another", other.count(8), 5);
        c.due("count(9) of the busy one", busy.count(9), 6);
    }

    @Sentence(promise = 1, says = "An object is used for at most 512 calls after it has been made; what later calls answer is free.")
    static void p01_the512thCall(Check c) {
        ThimbleSea sea = new ThimbleSea();
        // "heir h 1 1 1 1;dry=1" and "; seed 3;" with blanks: three calls with read()
        sea.feed(0x68656972, 0x20682031, 0x20312031, 0x20313b64, 0x72793d31);
        sea.feed(0x3b207365, 0x65642033, 0x3b202020, BLANKS, BLANKS);
        c.due("read()", sea.read(), 0);
        for (int call = 4; call <= 510; call++) {
            c.due("run(1), call " + call, sea.run(1), call - 3);
        }
        c.due("undo(), call 511", sea.undo(), true);
        c.due("count(4), call 512", sea.count(4), 506);
    }

    // ---- Promise 2 --------------------------------------------------------------------------------

    @Sentence(promise = 2, says = "Twenty bytes, the highest of a first, come behind the tape: how many it has.")
    static void p02_twentyBytesTheHighestOfAFirst(Check c) {
        for (int at = 0; at < 40; at++) {
            int[] words = new int[10];
            java.util.Arrays.fill(words, BLANKS);
            // 33 and 255 are no TOKEN wherever they stand; 255 makes the int of the first byte negative
            int sign = at % 2 == 0 ? 255 : 33;
            int shift = 24 - 8 * (at % 4);
            words[at / 4] = words[at / 4] & ~(255 << shift) | sign << shift;
            ThimbleSea sea = new ThimbleSea();
            c.due("feed", sea.feed(words[0], words[1], words[2], words[3], words[4]), 20);
            c.due("feed again", sea.feed(words[5], words[6], words[7], words[8], words[9]), 40);
            c.due("count(8)", sea.count(8), 40);
            c.due("read() of a " + sign + " at " + at, sea.read(), 1);
            c.due("place() of a " + sign + " at " + at, sea.place(), at);
        }
    }

    @Sentence(promise = 2, says = "NONE, and nothing comes, if it would have more than 2,000.")
    static void p02_upTo2000AndNoMore(Check c) {
        ThimbleSea sea = new ThimbleSea();
        for (int i = 1; i <= 99; i++) {
            c.due("feed " + i, sea.feed(BLANKS, BLANKS, BLANKS, BLANKS, BLANKS), 20 * i);
        }
        c.due("feed from 1980", sea.feed(BLANKS, BLANKS, BLANKS, BLANKS, BLANKS), 2000);
        c.due("feed from 2000", sea.feed(BLANKS, BLANKS, BLANKS, BLANKS, BLANKS), -1);
        c.due("count(8)", sea.count(8), 2000);
        c.due("back(19)", sea.back(19), 1981);
        c.due("feed from 1981", sea.feed(BLANKS, BLANKS, BLANKS, BLANKS, BLANKS), -1);
        c.due("count(8)", sea.count(8), 1981);
        c.due("back(1)", sea.back(1), 1980);
        c.due("feed from 1980 again", sea.feed(0, 0, 0, 0, 0), 2000);
        c.due("read()", sea.read(), 1);
        c.due("place()", sea.place(), 1980);
    }

    private static ThimbleSea nearlyFull() {
        ThimbleSea sea = Unchanged.busy();
        // 42 bytes are on the tape: 97 times 20 more are 1982
        for (int i = 0; i < 97; i++) {
            sea.feed(BLANKS, BLANKS, BLANKS, BLANKS, BLANKS);
        }
        return sea;
    }

    @Sentence(promise = 2, says = "NONE, and nothing comes, if it would have more than 2,000.")
    static void p02_nothingComes(Check c) {
        c.due("count(8)", nearlyFull().count(8), 1982);
        Unchanged.by(c, "feed on 1982", TextBoundsTest::nearlyFull,
            sea -> c.due("feed on 1982", sea.feed(0, 0, 0, 0, 0), -1));
    }

    // ---- Promise 3 --------------------------------------------------------------------------------

    @Sentence(promise = 3, says = "The last n bytes of the tape go: how many it has.")
    static void p03_theLastBytesGo(Check c) {
        ThimbleSea sea = new ThimbleSea();
        Check.feed(sea, "seed 7;!?!?!?!?!?!?!");
        c.due("back(0)", sea.back(0), 20);
        c.due("back(1)", sea.back(1), 19);
        c.due("back(11)", sea.back(11), 8);
        Check.feed(sea, "x");
        c.due("back(2)", sea.back(2), 7);
        c.due("read()", sea.read(), 0);
        Check.feed(sea, "abc");
        c.due("back(3), all", sea.back(3), 0);
        c.due("count(8)", sea.count(8), 0);
        c.due("back(0) of none", sea.back(0), 0);
    }

    @Sentence(promise = 3, says = "NONE, and nothing goes, if it has not so many, or n is below 0.")
    static void p03_notSoMany(Check c) {
        for (int n : new int[] {43, 2000, MAX, -1, -42, MIN}) {
            Unchanged.by(c, "back(" + n + ")", sea -> c.due("back(" + n + ")", sea.back(n), -1));
        }
        ThimbleSea sea = Unchanged.busy();
        c.due("back(42), all", sea.back(42), 0);
        c.due("back(1) of none", sea.back(1), -1);
        c.due("back(-1) of none", sea.back(-1), -1);
        c.due("count(8)", sea.count(8), 0);
    }

    // ---- Promise 4: the tape ----------------------------------------------------------------------

    @Sentence(promise = 4, says = "The tape, which is empty then, is read: 0, or the number of its FAULT.")
    static void p04_theTapeIsEmptyThen(Check c) {
        String[] texts = {"", "seed 1;", "x", times(6, "water w# 1 1;"), "water w 1 1; heir w 1 1 1 1;", "claim c = 1 of 1 h;", "seed 1; basin 0;"};
        int[] faults = {0, 0, 1, 2, 3, 4, 5};
        ThimbleSea sea = new ThimbleSea();
        for (int i = 0; i < texts.length; i++) {
            Check.feed(sea, texts[i]);
            c.due("read() of " + texts[i], sea.read(), faults[i]);
            c.due("count(8) behind " + texts[i], sea.count(8), 0);
            c.due("back(1) behind " + texts[i], sea.back(1), -1);
        }
        Check.feed(sea, "heir h 1 1 1 1;");
        c.due("read()", sea.read(), 0);
        c.due("count(1)", sea.count(1), 1);
        c.due("read() of the empty tape", sea.read(), 0);
        c.due("count(1), nothing is told", sea.count(1), 0);
    }

    @Sentence(promise = 4, says = "A TEXT has 2,000 bytes at most.")
    static void p04_aTextOf2000Bytes(Check c) {
        ThimbleSea sea = new ThimbleSea();
        Check.feed(sea, times(1992, " ") + "basin 7;");
        c.due("count(8)", sea.count(8), 2000);
        c.due("read() of 2,000 bytes", sea.read(), 0);
        c.due("count(6)", sea.count(6), 7);
        Check.feed(sea, times(1999, "\n") + "!");
        c.due("read() of a sign at the end", sea.read(), 1);
        c.due("place()", sea.place(), 1999);
        Check.feed(sea, "seed" + times(1996, " "));
        c.due("read() of what has no end", sea.read(), 1);
        c.due("place(), the text's end", sea.place(), 2000);
        Check.feed(sea, times(1992, " ") + "basin 8;");
        c.due("read() of 2,000 bytes again", sea.read(), 0);
        c.due("count(6)", sea.count(6), 8);
    }

    // ---- Promise 4: TOKENS ------------------------------------------------------------------------

    @Sentence(promise = 4, says = "TOKENS, the longest that can be, with blanks (9, 10, 13, 32) between or not")
    static void p04_blanks(Check c) {
        List<Integer> blanks = List.of(9, 10, 13, 32);
        for (int sign = 0; sign < 256; sign++) {
            boolean blank = blanks.contains(sign);
            fault(c, "" + (char) sign, blank ? 0 : 1, blank ? -1 : 0);
            if (!(sign >= '0' && sign <= '9')) {
                fault(c, "seed 1" + (char) sign + ";", blank ? 0 : 1, blank ? -1 : sign == ';' ? 7 : 6);
            }
            if (blank) {
                fine(c, "heir h 9 9 9 9;dry=(1);".replace(' ', (char) sign));
                fine(c, " heir  h  9  9  9  9  ;  dry  =  (  1  )  ;  ".replace(' ', (char) sign));
            }
        }
    }

    @Sentence(promise = 4, says = "TOKENS, the longest that can be, with blanks (9, 10, 13, 32) between or not")
    static void p04_theLongestThatCanBe(Check c) {
        fine(c, "seed1;basin2;dry=3;");
        fine(c, "water a1 1;heir b2 3 4 5;claim c=1of2b+3of4b;");
        fault(c, "water a11;", 1, 9);
        fault(c, "waterw 1 1;", 1, 0);
        fault(c, "seed 1;basinof;", 1, 7);
        fault(c, "dry=ifone", 1, 4);
        fine(c, "dry=if1<2then3else4;");
        fault(c, "dry=if1<2thenweekelse4;", 1, 9);
        fault(c, "seed 12 34;", 1, 8);
        fine(c, "seed 1234;");
        fault(c, "seed 1234 5;", 1, 10);
        fault(c, "seed 12345;", 1, 5);
    }

    @Sentence(promise = 4, says = "NAMES (letters a .. z, 8 at most, none of the words in quotes)")
    static void p04_lettersOfNames(Check c) {
        for (char letter = 'a'; letter <= 'z'; letter++) {
            fine(c, "water " + letter + " 1 1;");
            fine(c, "water z" + letter + letter + "a 1 1;");
        }
        for (char other : new char[] {'`', '{', 'A', 'Z', '@', '[', '_', (char) 233, '/' + 11}) {
            fault(c, "water " + other + " 1 1;", 1, 6);
            fault(c, "water a" + other + " 1 1;", 1, 7);
        }
    }

    @Sentence(promise = 4, says = "NAMES (letters a .. z, 8 at most, none of the words in quotes)")
    static void p04_namesOf8LettersAtMost(Check c) {
        fine(c, "water a 1 1;");
        fine(c, "water abcdefg 1 1;");
        fine(c, "water abcdefgh 1 1;");
        fault(c, "water abcdefghi 1 1;", 1, 6);
        fault(c, "water zzzzzzzzz 1 1;", 1, 6);
        // names are alike only if all letters are
        for (int at = 0; at < 8; at++) {
            for (char letter = 'a'; letter <= 'z'; letter++) {
                String other = "mmmmmmmm".substring(0, at) + letter + "mmmmmmmm".substring(at + 1);
                fault(c, "water mmmmmmmm 1 1; water " + other + " 1 1;", letter == 'm' ? 3 : 0, letter == 'm' ? 26 : -1);
            }
        }
        fine(c, "water zzzzzzzz 1 1; water zzzzzzzy 1 1; water yzzzzzzz 1 1; water zzzzzzz 1 1; water z 1 1;");
        fine(c, "water a 1 1; water aa 1 1; water aaaaaaaa 1 1; water aaaaaaa 1 1; water b 1 1;");
        fault(c, "water abcdefgh 1 1; water abcdefgh 1 1;", 3, 26);
        fault(c, "heir abcdefgh 1 1 1 1; claim c = 1 of 1 bbcdefgh;", 4, 40);
        fine(c, "heir abcdefgh 1 1 1 1; claim c = 1 of 1 abcdefgh;");
    }

    @Sentence(promise = 4, says = "NAMES (letters a .. z, 8 at most, none of the words in quotes)")
    static void p04_namesThatAreNoWords(Check c) {
        for (String word : WORDS.split(" ")) {
            fault(c, "water " + word + " 1 1;", 1, 6);
            fine(c, "water " + word + "x 1 1;");
            fine(c, "water x" + word + " 1 1;");
            fine(c, "water " + word.substring(1) + " 1 1;");
        }
        for (String no : "name int tell law term unit var part text none text e waters heirs lots".split(" ")) {
            fine(c, "water " + no + " 1 1;");
        }
    }

    @Sentence(promise = 4, says = "INTS (1 to 4 digits)")
    static void p04_intsOf1To4Digits(Check c) {
        for (char digit = '0'; digit <= '9'; digit++) {
            fine(c, "seed " + digit + ";");
        }
        fine(c, "seed 0000;");
        fine(c, "seed 9999;");
        fine(c, "dry = 9999;");
        fault(c, "seed ;", 1, 5);
        fault(c, "seed 00000;", 1, 5);
        fault(c, "seed 00001;", 1, 5);
        fault(c, "dry = 10000;", 1, 6);
        fault(c, "seed 4294967297;", 1, 5);
        fault(c, "seed " + times(40, "1") + ";", 1, 5);
        // byte 47 is a SIGN, 58 is nothing
        fault(c, "seed /;", 1, 5);
        fault(c, "seed 1:;", 1, 6);
        ThimbleSea sea = Check.sea("basin 0070;");
        c.due("count(6) of 0070", sea.count(6), 70);
    }

    @Sentence(promise = 4, says = "SIGNS ; = + - * / < ( )")
    static void p04_signs(Check c) {
        for (int sign = 0; sign < 256; sign++) {
            String text = "dry = 1 " + (char) sign + " 2;";
            if ("+-*/".indexOf(sign) >= 0) {
                fine(c, text);
            } else {
                boolean goesOn = ";\t\n\r ".indexOf(sign) >= 0;
                fault(c, text, 1, goesOn ? 10 : 8);
            }
        }
        fine(c, "dry = if 1 < 2 then (3) else 4;");
    }

    @Sentence(promise = 4, says = "A longer one, all else, is no TOKEN.")
    static void p04_noToken(Check c) {
        fault(c, "waterwate w 1 1;", 1, 0);
        fault(c, "abcdefghi", 1, 0);
        fault(c, "water abcdefghij 1 1;", 1, 6);
        fault(c, "water " + times(300, "a") + " 1 1;", 1, 6);
        fault(c, "dry = 99999;", 1, 6);
        fault(c, "seed -1;", 1, 5);
        fault(c, "seed 1.5;", 1, 6);
        fault(c, "Seed 1;", 1, 0);
        fault(c, "seed 1;#", 1, 7);
        fault(c, "dry = \"1\";", 1, 6);
    }

    // ---- Promise 4: what goes on ------------------------------------------------------------------

    private static final String UNIT = "7 week level salt share sent lot (";
    private static final String TELLS = "water heir sends dry basin claim seed";

    /** With every kind of TOKEN behind what is begun: those that may follow go on, so that the text's end is too early. */
    private static void follows(Check c, String begun, String allowed) {
        List<String> goOn = List.of(allowed.split(" "));
        for (String kind : (WORDS + " name 7 ; = + - * / < ( )").split(" ")) {
            String text = begun + " " + kind;
            if (!goOn.contains(kind)) {
                fault(c, text, 1, begun.length() + 1);
            } else if (kind.equals(";")) {
                fine(c, text);
            } else {
                fault(c, text, 1, text.length());
                fault(c, text + " \r\n", 1, text.length() + 3);
            }
        }
        for (char sign : new char[] {0, '!', '>', ',', 'A', 127, 128, 255}) {
            fault(c, begun + " " + sign, 1, begun.length() + 1);
        }
    }

    @Sentence(promise = 4, says = "text: {TELL}.")
    static void p04_noneOrMoreTells(Check c) {
        fine(c, "");
        fine(c, " ");
        fine(c, "seed 1;");
        fine(c, "seed 1;seed 1;");
        follows(c, "", TELLS);
        follows(c, "seed 1;", TELLS);
        follows(c, "dry = 1; basin 1;", TELLS);
        fault(c, ";", 1, 0);
        fault(c, "seed 1;;", 1, 7);
    }

    @Sentence(promise = 4, says = "TELL: 'water' NAME INT INT ';' | 'heir' NAME INT INT INT INT ';' | 'sends' NAME NAME LAW ';' | "
        + "'dry' LAW ';' | 'basin' INT ';' | 'claim' NAME '=' TERM {'+' TERM} ';' | 'seed' INT ';'.")
    static void p04_whatGoesOnInATell(Check c) {
        follows(c, "water", "name");
        follows(c, "water w", "7");
        follows(c, "water w 1", "7");
        follows(c, "water w 1 1", ";");
        follows(c, "heir", "name");
        follows(c, "heir h", "7");
        follows(c, "heir h 1", "7");
        follows(c, "heir h 1 1", "7");
        follows(c, "heir h 1 1 1", "7");
        follows(c, "heir h 1 1 1 1", ";");
        follows(c, BOTH + "sends", "name");
        follows(c, BOTH + "sends h", "name");
        follows(c, BOTH + "sends h w", "=");
        follows(c, BOTH + "sends h w = 1", "+ - * / ;");
        follows(c, "dry", "=");
        follows(c, "dry = 1", "+ - * / ;");
        follows(c, "basin", "7");
        follows(c, "basin 1", ";");
        follows(c, "seed", "7");
        follows(c, "seed 1", ";");
        follows(c, BOTH + "claim", "name");
        follows(c, BOTH + "claim c", "=");
        follows(c, BOTH + "claim c =", "7");
    }

    @Sentence(promise = 4, says = "LAW: '=' {'if' E '<' E 'then' E 'else'} E. TERM: INT 'of' INT NAME.")
    static void p04_whatGoesOnInALawAndATerm(Check c) {
        follows(c, "dry =", UNIT + " if");
        follows(c, "dry = if", UNIT);
        follows(c, "dry = if 1", "+ - * / <");
        follows(c, "dry = if 1 <", UNIT);
        follows(c, "dry = if 1 < 1", "+ - * / then");
        follows(c, "dry = if 1 < 1 then", UNIT);
        follows(c, "dry = if 1 < 1 then 1", "+ - * / else");
        follows(c, "dry = if 1 < 1 then 1 else", UNIT + " if");
        follows(c, "dry = if 1 < 1 then 1 else 1", "+ - * / ;");
        follows(c, "dry = if 1 < 1 then 1 else if 1 < 1 then 1 else", UNIT + " if");
        follows(c, BOTH + "claim c = 1", "of");
        follows(c, BOTH + "claim c = 1 of", "7");
        follows(c, BOTH + "claim c = 1 of 1", "name");
        follows(c, BOTH + "claim c = 1 of 1 h", "+ ;");
        follows(c, BOTH + "claim c = 1 of 1 h +", "7");
        follows(c, BOTH + "claim c = 1 of 1 h + 2 of 2 h", "+ ;");
    }

    @Sentence(promise = 4, says = "E: PART {('+' | '-') PART}. PART: UNIT {('*' | '/') UNIT}. UNIT: INT | VAR | '(' E ')'. "
        + "VAR: 'week' | 'level' | 'salt' | 'share' | 'sent' | 'lot'.")
    static void p04_whatGoesOnInAnE(Check c) {
        for (String sign : "+ - * /".split(" ")) {
            follows(c, "dry = 1 " + sign, UNIT);
            follows(c, "dry = 1 " + sign + " 2", "+ - * / ;");
            follows(c, "dry = (1 " + sign, UNIT);
            follows(c, "dry = if 1 " + sign, UNIT);
        }
        for (String var : "week level salt share sent lot".split(" ")) {
            follows(c, "dry = " + var, "+ - * / ;");
        }
        follows(c, "dry = (", UNIT);
        follows(c, "dry = (1", "+ - * / )");
        follows(c, "dry = (1)", "+ - * / ;");
        follows(c, "dry = ((1)", "+ - * / )");
        follows(c, "dry = if (1", "+ - * / )");
        follows(c, "dry = if (1)", "+ - * / <");
        follows(c, "dry = if 1 < (1)", "+ - * / then");
        follows(c, "dry = if 1 < 1 then (1)", "+ - * / else");
    }

    // ---- Promise 4: what is told ------------------------------------------------------------------

    private static void between(Check c, String before, int least, int most, String behind) {
        fine(c, before + least + behind);
        fine(c, before + most + behind);
        fine(c, before + (least + 1) + behind);
        fine(c, before + (most - 1) + behind);
        if (least > 0) {
            fault(c, before + (least - 1) + behind, 5, before.length());
            fault(c, before + "0000" + behind, 5, before.length());
        }
        if (most < 9999) {
            fault(c, before + (most + 1) + behind, 5, before.length());
            fault(c, before + "9999" + behind, 5, before.length());
        }
    }

    @Sentence(promise = 4, says = "WATERS, 5 at most (a NAME, SALT 0 .. 99 and COLOUR 0 .. 9 of a drop)")
    static void p04_waters(Check c) {
        between(c, "water w ", 0, 99, " 0;");
        between(c, "water w 0 ", 0, 9, ";");
        fine(c, times(5, "water w# 1 1;"));
        fault(c, times(6, "water w# 1 1;"), 2, 5 * 13);
        ThimbleSea sea = Check.sea("heir h 1 1 1 1; water w 99 9; sends h w = 2;");
        sea.run(1);
        c.due("salt() of two drops", sea.salt(), 198);
        c.due("thimble(2, 198, 18)", sea.thimble(2, 198, 18), 1);
        c.due("thimble(2, 198, 17)", sea.thimble(2, 198, 17), 0);
    }

    @Sentence(promise = 4, says = "HEIRS, 8 at most (a NAME, SHARE 1 .. 99, PRICE 0 .. 99 of a drop, FEE 0 .. 999, MOST 0 .. 999)")
    static void p04_heirs(Check c) {
        between(c, "heir h ", 1, 99, " 0 0 0;");
        between(c, "heir h 1 ", 0, 99, " 0 0;");
        between(c, "heir h 1 0 ", 0, 999, " 0;");
        between(c, "heir h 1 0 0 ", 0, 999, ";");
        fine(c, times(8, "heir h# 1 1 1 1;"));
        fault(c, times(9, "heir h# 1 1 1 1;"), 2, 8 * 16);
        ThimbleSea sea = Check.sea("heir h 98 97 996 995;");
        c.due("SHARE", sea.heir(0, 2), 98);
        c.due("MOST", sea.asked(996, 0), -2);
        c.due("PRICE and FEE", sea.asked(995, 0), 995 * 97 + 996);
    }

    @Sentence(promise = 4, says = "SENDS, 16 at most (an HEIR, a WATER, a LAW: how many drops each week)")
    static void p04_sends(Check c) {
        fine(c, BOTH + times(16, "sends h w = 1;"));
        fault(c, BOTH + times(17, "sends h w = 1;"), 2, BOTH.length() + 16 * 14);
        ThimbleSea sea = Check.sea(BOTH + times(15, "sends h w = 1;") + "sends h w = 77;");
        c.due("count(2)", sea.count(2), 16);
        c.due("tells(14)", sea.tells(14), 1);
        c.due("tells(15)", sea.tells(15), 77);
        sea.run(1);
        c.due("drops(0, 0)", sea.drops(0, 0), 15 + 77);
    }

    @Sentence(promise = 4, says = "CLAIMS, 6 at most (a NAME, 6 TERMS at most: so much of so much, 1 .. 99 each, of what an HEIR has)")
    static void p04_claims(Check c) {
        between(c, BOTH + "claim c = ", 1, 99, " of 1 h;");
        between(c, BOTH + "claim c = 1 of ", 1, 99, " h;");
        between(c, BOTH + "claim c = 1 of 1 h + ", 1, 99, " of 1 h;");
        between(c, BOTH + "claim c = 1 of 1 h + 1 of ", 1, 99, " h;");
        String five = "claim c = " + times(5, "1 of 1 h + ");
        between(c, BOTH + five, 1, 99, " of 1 h;");
        between(c, BOTH + five + "1 of ", 1, 99, " h;");
        fine(c, BOTH + times(6, "claim c# = 1 of 1 h;"));
        fault(c, BOTH + times(7, "claim c# = 1 of 1 h;"), 2, BOTH.length() + 6 * 20);
    }

    @Sentence(promise = 4, says = "are numbered each from 0 on as they stand.")
    static void p04_numberedFrom0OnAsTheyStand(Check c) {
        ThimbleSea sea = Check.sea("heir z 9 1 1 1; water z" + "z 5 1; heir a 3 1 1 1; water aa 7 2; claim q = 1 of 1 a; sends a aa = 4;"
            + "heir m 5 1 1 1; sends z zz = 2; claim b = 1 of 1 z;");
        sea.run(1);
        c.due("SHARE of the first HEIR", sea.heir(0, 2), 9);
        c.due("SHARE of the second HEIR", sea.heir(1, 2), 3);
        c.due("SHARE of the third HEIR", sea.heir(2, 2), 5);
        c.due("drops(0, 0)", sea.drops(0, 0), 2);
        c.due("drops(1, 1)", sea.drops(1, 1), 4);
        c.due("tells(0)", sea.tells(0), 4);
        c.due("tells(1)", sea.tells(1), 2);
        c.due("claim(0, false)", sea.claim(0, false), 4);
        c.due("claim(1, false)", sea.claim(1, false), 2);
    }

    @Sentence(promise = 4, says = "DRY: a LAW (none: 0).")
    static void p04_noDry(Check c) {
        ThimbleSea sea = Check.sea(BOTH + "sends h w = 9;");
        sea.run(3);
        c.due("count(5) without a dry", sea.count(5), 27);
        // an earlier text's dry is not the next one's
        Check.feed(sea, BOTH + "sends h w = 9; dry = 9;");
        c.due("read()", sea.read(), 0);
        sea.run(3);
        c.due("count(5) with a dry", sea.count(5), 0);
        Check.feed(sea, BOTH + "sends h w = 9;");
        c.due("read()", sea.read(), 0);
        sea.run(3);
        c.due("count(5) without a dry again", sea.count(5), 27);
    }

    @Sentence(promise = 4, says = "LAW: '=' {'if' E '<' E 'then' E 'else'} E.")
    static void p04_longLawsOfManyTexts(Check c) {
        String longest = "heir h 1 1 1 1;water w 1 1;sends h w=7" + times(190, "+1") + "-99;";
        ThimbleSea sea = new ThimbleSea();
        for (int i = 0; i < 12; i++) {
            Check.feed(sea, longest);
            c.due("read() of 400 TOKENS, " + i, sea.read(), 0);
            c.due("tells(0) of 400 TOKENS, " + i, sea.tells(0), 98);
        }
        Check.feed(sea, longest.replace("-99", "-999"));
        c.due("read() of 400 TOKENS", sea.read(), 0);
        c.due("tells(0), 197 less 999", sea.tells(0), 0);
        Check.feed(sea, longest.replace("=7", "=0").replace("-99", "-150"));
        c.due("read() of 400 TOKENS", sea.read(), 0);
        c.due("tells(0), 190 less 150", sea.tells(0), 40);
    }

    @Sentence(promise = 4, says = "BASIN: how many drops it holds, 1 .. 9999 (999 if not told).")
    static void p04_basin(Check c) {
        between(c, "basin ", 1, 9999, ";");
        c.due("count(6) of 1", Check.sea("basin 1;").count(6), 1);
        c.due("count(6) of 9999", Check.sea("basin 9999;").count(6), 9999);
        ThimbleSea sea = Check.sea("basin 5;");
        Check.feed(sea, "seed 5;");
        c.due("read()", sea.read(), 0);
        c.due("count(6) if not told", sea.count(6), 999);
    }

    @Sentence(promise = 4, says = "SEED 0 .. 9999 (0).")
    static void p04_seed(Check c) {
        fine(c, "seed 0;");
        fine(c, "seed 9999;");
        fault(c, "seed 10000;", 1, 5);
        String drawing = BOTH + "sends h w = lot / 11; sends h w = lot / 11; sends h w = lot / 11; sends h w = lot / 11;";
        ThimbleSea none = Check.sea(drawing);
        ThimbleSea zero = Check.sea("seed 0;" + drawing);
        ThimbleSea again = Check.sea("seed 8;" + drawing);
        boolean differs = false;
        for (int sends = 0; sends < 4; sends++) {
            differs |= again.tells(sends) != zero.tells(sends);
        }
        c.due("another SEED draws otherwise", differs, true);
        Check.feed(again, drawing);
        c.due("read()", again.read(), 0);
        for (int sends = 0; sends < 4; sends++) {
            c.due("tells(" + sends + ") without a SEED", none.tells(sends), zero.tells(sends));
            c.due("tells(" + sends + ") without a SEED behind another", again.tells(sends), zero.tells(sends));
        }
    }

    @Sentence(promise = 4, says = "Of several dries, basins, seeds the last one.")
    static void p04_theLastOneOfSeveral(Check c) {
        c.due("count(6)", Check.sea("basin 3; basin 9; basin 5;").count(6), 5);
        ThimbleSea sea = Check.sea(BOTH + "dry = 1; sends h w = 9; dry = 7; dry = 2;");
        sea.run(1);
        c.due("count(5) of three dries", sea.count(5), 7);
        String drawing = BOTH + "sends h w = lot / 11;";
        c.due("tells(0) of three seeds", Check.sea("seed 1; seed 77;" + drawing + "seed 4;").tells(0),
            Check.sea("seed 4;" + drawing).tells(0));
        fault(c, "basin 0; basin 5;", 5, 6);
    }

    // ---- Promise 4: FAULTS ------------------------------------------------------------------------

    @Sentence(promise = 4, says = "FAULTS of a text, the first by its place (a byte; the text's end: its length), of one place the least")
    static void p04_theFirstByItsPlace(Check c) {
        fault(c, "! !", 1, 0);
        fault(c, "seed 1; ! seed", 1, 8);
        fault(c, times(6, "water w# 1 1;") + "!", 2, 65);
        fault(c, times(5, "water w# 1 1;") + "! water x 1 1;", 1, 65);
        fault(c, "seed", 1, 4);
        fault(c, "seed\t", 1, 5);
        fault(c, "dry = 1;dry = 1", 1, 15);
        fault(c, "water w 100 10;", 5, 8);
        fault(c, "water w 99 10; heir w 0 0 0 0;", 5, 11);
        fault(c, "water w 9 9; heir w 0 0 0 0;", 3, 18);
        fault(c, "water w 9 9; heir v 0 0 0 0; sends q q = 1;", 5, 20);
        fault(c, "sends q q = 1; water w 100 1;", 4, 6);
        fault(c, BOTH + "sends q v = 1;", 4, BOTH.length() + 6);
        fault(c, "claim c = 0 of 0 q;", 5, 10);
        fault(c, "claim c = 1 of 0 q;", 5, 15);
        fault(c, "claim c = 1 of 1 q;", 4, 17);
    }

    @Sentence(promise = 4, says = "FAULTS of a text, the first by its place (a byte; the text's end: its length), of one place the least")
    static void p04_ofOnePlaceTheLeast(Check c) {
        // what is no TOKEN where a 401st, a 7th TERM or the like would be too many is SYNTAX
        fault(c, times(132, "seed 1;") + "dry=1;!", 1, 930);
        fault(c, times(132, "seed 1;") + "dry=1;;", 1, 930);
        fault(c, times(132, "seed 1;") + "dry=1;seed", 2, 930);
        fault(c, BOTH + "claim c = " + times(6, "1 of 1 h+") + "h;", 1, BOTH.length() + 10 + 54);
        fault(c, BOTH + "claim c = " + times(6, "1 of 1 h+") + ";", 1, BOTH.length() + 10 + 54);
        fault(c, BOTH + "claim c = " + times(6, "1 of 1 h+"), 1, BOTH.length() + 10 + 54);
        fault(c, BOTH + "claim c = " + times(6, "1 of 1 h+") + "1", 2, BOTH.length() + 10 + 54);
        fault(c, "dry = 1 " + times(7, "("), 1, 8);
        fault(c, "dry = " + times(6, "(") + "1 (", 1, 14);
    }

    @Sentence(promise = 4, says = "1 SYNTAX: a TOKEN, or what is none, with which no text goes on.")
    static void p04_syntax(Check c) {
        fault(c, "name", 1, 0);
        fault(c, "7", 1, 0);
        fault(c, "water w 1 1 1;", 1, 12);
        fault(c, "water w 1;", 1, 9);
        fault(c, "heir h 1 1 1;", 1, 12);
        fault(c, "heir h 1 1 1 1 1;", 1, 15);
        fault(c, "dry = -1;", 1, 6);
        fault(c, "dry = 1 2;", 1, 8);
        fault(c, "dry = (1;", 1, 8);
        fault(c, "dry = 1);", 1, 7);
        fault(c, "dry = ();", 1, 7);
        fault(c, "dry = 1 < 2;", 1, 8);
        fault(c, "dry = (if 1 < 2 then 3 else 4);", 1, 7);
        fault(c, "dry = if (1 < 2) then 3 else 4;", 1, 12);
        fault(c, "dry = if 1 < 2 then if 1 < 2 then 3 else 4 else 5;", 1, 20);
        fault(c, "seed 1", 1, 6);
        // a name not told, a number not as told above: the form goes on
        fault(c, "sends a b = 1; basin 0; claim c = 0 of 0 d", 1, 42);
    }

    @Sentence(promise = 4, says = "2 ROOM: a 401st TOKEN;")
    static void p04_a401stToken(Check c) {
        String most = times(132, "seed 1;") + "dry=1;";
        fine(c, most);
        fine(c, most.replace(";", " ; "));
        fine(c, most + times(900, " "));
        fault(c, most + "seed 1;", 2, 930);
        fault(c, most + times(900, " ") + "basin 1;", 2, 1830);
        fault(c, times(133, "seed 1;") + "seed", 1, 935);
        fault(c, times(133, "seed 1;") + "seed 1", 2, 936);
        fault(c, times(133, "seed 1;") + "seed 1; !", 2, 936);
        fault(c, times(133, "seed 1;") + "seed ;", 1, 936);
        fault(c, times(131, "seed 1;") + "dry=1+1+1;", 2, 917 + 9);
        // each kind of TOKEN as the 401st
        fine(c, "dry=1" + times(198, "+1") + ";");
        fault(c, "dry=1" + times(198, "+1") + "+;", 1, 402);
        fault(c, "dry=1" + times(198, "+1") + "+1;", 2, 402);
        fault(c, "dry=" + times(199, "1*") + "week;", 2, 402);
        fault(c, "dry=" + times(199, "1-") + "(1);", 2, 402);
        fault(c, "dry=" + times(198, "1/") + "(1);", 2, 402);
        fault(c, "dry=1*" + times(197, "1/") + "(1", 1, 402);
        fault(c, "dry=if 1<" + times(197, "1/") + "1then", 2, 4 + 5 + 394 + 1);
        fault(c, "dry=if 1<2then " + times(196, "1/") + "1 else", 2, 4 + 11 + 392 + 2);
        fault(c, "dry=1;" + times(132, "seed 1;") + "water w 1 1;", 2, 930);
        fault(c, "dry=1;" + times(131, "seed 1;") + "basin 1; heir h 1 1 1 1;", 2, 932);
    }

    /** So many TOKENS, 6 or more, that tell nothing new. */
    private static String tokens(int n) {
        int fours = n % 3;
        return times((n - 4 * fours) / 3, "seed 1;") + times(fours, "dry=1;");
    }

    @Sentence(promise = 4, says = "2 ROOM: a 401st TOKEN;")
    static void p04_eachTokenOfEachTellAsThe401st(Check c) {
        String[] tells = {"water v 1 1 ;", "heir g 1 1 1 1 ;", "sends h w = 1 ;", "basin 1 ;", "seed 1 ;", "claim c = 1 of 1 h + 2 of 2 h ;",
            "dry = if 1 < ( 2 ) then 3 * 4 else if week < 6 / 7 then 8 else 1 - 2 + ( ( 3 + 4 * 5 ) - 6 ) ;"};
        for (String tell : tells) {
            String[] kinds = tell.split(" ");
            for (int i = 0; i < kinds.length; i++) {
                // BOTH has 12 TOKENS
                String ahead = BOTH + tokens(400 - 12 - i);
                StringBuilder begun = new StringBuilder(ahead);
                for (int j = 0; j < i; j++) {
                    begun.append(kinds[j]).append(' ');
                }
                fault(c, ahead + tell, 2, begun.length());
                fault(c, begun + "!", 1, begun.length());
                if (i > 0) {
                    fault(c, begun.toString(), 1, begun.length());
                } else {
                    fine(c, begun.toString());
                }
            }
        }
    }

    @Sentence(promise = 4, says = "a 6th water, a 9th heir, a 17th sends, a 7th claim (at its first TOKEN);")
    static void p04_tooManyTells(Check c) {
        String waters = times(5, "water w# 1 1;");
        fine(c, waters);
        fault(c, waters + " water", 2, 66);
        fault(c, waters + "water 1 1;", 2, 65);
        fault(c, waters + "water wa 100 1;", 2, 65);
        fault(c, waters + "water x 1 1;", 2, 65);
        fine(c, waters + "heir h 1 1 1 1; dry = 1; basin 1; seed 1;");
        String heirs = times(8, "heir h# 1 1 1 1;");
        fine(c, heirs + waters);
        fault(c, heirs + "heir", 2, 128);
        fault(c, heirs + "heir ha 0 0 0 0;", 2, 128);
        String sends = times(16, "sends h w = 1;");
        fine(c, BOTH + sends + "heir g 1 1 1 1; water v 1 1;");
        fault(c, BOTH + sends + "sends", 2, BOTH.length() + 224);
        fault(c, BOTH + sends + "sends q q = 1;", 2, BOTH.length() + 224);
        String claims = times(6, "claim c# = 1 of 1 h;");
        fine(c, BOTH + claims + sends);
        fault(c, BOTH + claims + "claim", 2, BOTH.length() + 120);
        fault(c, BOTH + claims + "claim ca = 0 of 1 h;", 2, BOTH.length() + 120);
        // names told twice are waters all the same
        fault(c, times(6, "water w 1 1;"), 2, 60);
        // all 19 NAMES, the last of which is an HEIR's
        String names = times(5, "water w# 1 1;") + times(7, "heir h# 1 1 1 1;") + times(6, "claim c# = 1 of 1 ha;");
        fine(c, names + "heir last 1 1 1 1; sends last we = 1;");
        fault(c, names + "heir last 1 1 1 1; sends lasts we = 1;", 4, names.length() + 25);
        fault(c, names + "heir cf 1 1 1 1;", 3, names.length() + 5);
    }

    @Sentence(promise = 4, says = "a 7th TERM of a CLAIM (at its first INT);")
    static void p04_a7thTerm(Check c) {
        String six = "claim c = 1 of 1 h" + times(5, " + 1 of 1 h");
        fine(c, BOTH + six + ";");
        fine(c, BOTH + six + ";" + six.replace(" c ", " d ") + ";");
        fault(c, BOTH + six + " + 1 of 1 h;", 2, BOTH.length() + six.length() + 3);
        fault(c, BOTH + six + " + 0", 2, BOTH.length() + six.length() + 3);
        fault(c, BOTH + six + " + 12345", 1, BOTH.length() + six.length() + 3);
        fault(c, BOTH + six + " +", 1, BOTH.length() + six.length() + 2);
    }

    @Sentence(promise = 4, says = "a 5th if of a LAW (at it);")
    static void p04_a5thIf(Check c) {
        String four = times(4, "if 1 < 2 then 3 else ");
        fine(c, "dry = " + four + "4;");
        fine(c, "dry = " + four + "4; dry = " + four + "4;");
        fault(c, "dry = " + four + "if 1 < 2 then 3 else 4;", 2, 6 + four.length());
        fault(c, "dry = " + four + "if", 2, 6 + four.length());
        fault(c, "dry = " + four + "else", 1, 6 + four.length());
        fault(c, "dry = 1; dry = " + four + "if", 2, 15 + four.length());
        fault(c, BOTH + "sends h w = " + four + " if 1", 2, BOTH.length() + 12 + four.length() + 1);
        fine(c, BOTH + "sends h w = " + four + "1; sends h w = " + four + "1;");
    }

    @Sentence(promise = 4, says = "a 7th ( within one another (at it).")
    static void p04_a7thParenthesis(Check c) {
        fine(c, "dry = " + SIX + ";");
        fine(c, "dry = " + SIX + " + " + SIX + " * " + SIX + " - " + SIX + " / " + SIX + ";");
        fine(c, "dry = if " + SIX + " < " + SIX + " then " + SIX + " else " + SIX + ";");
        fine(c, "dry = ((((((1) * (1)) * (1)) * (1)) * (1)) * (1));");
        fault(c, "dry = (" + SIX + ");", 2, 12);
        fault(c, "dry = " + times(7, "("), 2, 12);
        fault(c, "dry = " + times(7, "(") + "!", 2, 12);
        fault(c, "dry = ( ( ( ( ( (  (", 2, 19);
        fault(c, "dry = " + SIX + " + (" + SIX + ");", 2, 6 + 13 + 3 + 6);
        fault(c, "dry = (1 + (1 * (1 - (1 / (1 + (1 + (", 2, 36);
        // what does not go on within six is SYNTAX
        for (String kind : (WORDS + " name ; = + - * / < ) !").split(" ")) {
            boolean goesOn = (" " + UNIT + " ").contains(" " + kind + " ");
            fault(c, "dry = ((((((" + kind, 1, goesOn ? 12 + kind.length() : 12);
        }
        fault(c, "dry = ((((((", 1, 12);
        fault(c, "dry = if (" + SIX, 2, 15);
        fault(c, "dry = if 1 < (" + SIX, 2, 19);
        fault(c, "dry = if 1 < 2 then (" + SIX, 2, 26);
        fault(c, "dry = if 1 < 2 then 3 else (" + SIX, 2, 33);
    }

    @Sentence(promise = 4, says = "If there is none, likewise:")
    static void p04_formComesAheadOfMeaning(Check c) {
        fault(c, "water w 100 1; x", 1, 15);
        fault(c, "water w 100 1; seed", 1, 19);
        fault(c, "sends q q = 1; dry = " + times(7, "("), 2, 27);
        fault(c, "water w 1 1; water w 1 1;" + times(4, "water x# 1 1;"), 2, 25 + 39);
        fault(c, "claim c = 0 of 0 q", 1, 18);
        fault(c, "basin 0;" + times(133, "seed 1;"), 2, 8 + 132 * 7 + 5);
        fault(c, "basin 0;" + times(132, "seed 1;"), 5, 6);
        fault(c, "basin 0; seed 12345;", 1, 14);
    }

    @Sentence(promise = 4, says = "3 TWICE: a NAME told already (WATERS, HEIRS and CLAIMS together).")
    static void p04_twice(Check c) {
        String[] tells = {"water n 1 1;", "heir n 1 1 1 1;", "claim n = 1 of 1 h;"};
        for (String first : tells) {
            for (String second : tells) {
                String text = "heir h 1 1 1 1;" + first;
                fault(c, text + second, 3, text.length() + second.indexOf('n', second.indexOf(' ')));
                fine(c, text + second.replace(" n ", " m "));
            }
        }
        fault(c, "heir h 1 1 1 1; claim h = 1 of 1 h;", 3, 22);
        fault(c, "heir h 1 1 1 1; claim c = 1 of 1 h; sends h h = 1; water c 1 1;", 4, 44);
        fault(c, "water w 1 1; dry = 1; water w 100 1;", 3, 28);
        // what an earlier text told is not told already
        ThimbleSea sea = Check.sea("water n 1 1;");
        Check.feed(sea, "heir n 1 1 1 1;");
        c.due("read() of the same name in the next text", sea.read(), 0);
    }

    @Sentence(promise = 4, says = "4 NAME: no such one told ahead (sends: an HEIR, a WATER; TERM: an HEIR).")
    static void p04_noSuchOneToldAhead(Check c) {
        String all = BOTH + "claim c = 1 of 1 h; ";
        int from = all.length();
        fine(c, all + "sends h w = 1; claim d = 1 of 1 h;");
        for (String no : new String[] {"q", "w", "c", "hh"}) {
            fault(c, all + "sends " + no + " w = 1;", 4, from + 6);
            fault(c, all + "claim d = 1 of 1 " + no + ";", 4, from + 17);
            fault(c, all + "claim d = 1 of 1 h + 1 of 1 " + no + ";", 4, from + 28);
        }
        for (String no : new String[] {"q", "h", "c", "ww"}) {
            fault(c, all + "sends h " + no + " = 1;", 4, from + 8);
        }
        // told behind it is not ahead
        fault(c, "sends h w = 1; heir h 1 1 1 1; water w 1 1;", 4, 6);
        fault(c, "heir h 1 1 1 1; sends h w = 1; water w 1 1;", 4, 24);
        fault(c, "claim d = 1 of 1 h; heir h 1 1 1 1;", 4, 17);
        fault(c, "claim d = 1 of 1 d;", 4, 17);
        // told by an earlier text is not ahead
        ThimbleSea sea = Check.sea(BOTH);
        Check.feed(sea, "heir h 1 1 1 1; sends h w = 1;");
        c.due("read() of a name of the text before", sea.read(), 4);
        c.due("place()", sea.place(), 24);
    }

    @Sentence(promise = 4, says = "5 WRONG (at the INT): a number not as told above.")
    static void p04_wrongAtTheInt(Check c) {
        fault(c, "water w  0100  1;", 5, 9);
        fault(c, "water w 1 0010;", 5, 10);
        fault(c, "heir h 0 1 1 1;", 5, 7);
        fault(c, "heir h 100 1 1 1;", 5, 7);
        fault(c, "heir h 1 100 1 1;", 5, 9);
        fault(c, "heir h 1 1 1000 1;", 5, 11);
        fault(c, "heir h 1 1 1 1000;", 5, 13);
        fault(c, "basin 0;", 5, 6);
        fault(c, "basin\n\n0000;", 5, 7);
        fault(c, BOTH + "claim c = 0 of 1 h;", 5, BOTH.length() + 10);
        fault(c, BOTH + "claim c = 100 of 1 h;", 5, BOTH.length() + 10);
        fault(c, BOTH + "claim c = 1 of 0 h;", 5, BOTH.length() + 15);
        fault(c, BOTH + "claim c = 1 of 100 h;", 5, BOTH.length() + 15);
        fine(c, "seed 9999; dry = 9999 - 0;");
    }

    // ---- Promise 4: in place of the text ahead ----------------------------------------------------

    @Sentence(promise = 4, says = "A text with a FAULT changes nothing but the tape;")
    static void p04_aFaultChangesNothing(Check c) {
        String[] texts = {"heir q 1 1 1 1; basin 5; seed 5; dry = 1; x", times(6, "water w# 2 2;"), "heir q 9 9 9 9; water q 1 1;",
            "basin 5; dry = 7; heir q 9 9 9 9; water r 1 1; sends q s = 1;", "heir q 9 9 9 9; claim c = 5 of 5 q; basin 0;"};
        for (int fault = 1; fault <= 5; fault++) {
            String text = texts[fault - 1];
            int number = fault;
            behindAFault(c, text, number, sea -> "");
            behindAFault(c, text, number, sea -> "undo() " + sea.undo());
            behindAFault(c, text, number, sea -> "restore(0) " + sea.restore(0));
            behindAFault(c, text, number, sea -> "restore(2) " + sea.restore(2));
            behindAFault(c, text, number, sea -> "run(2) " + sea.run(2));
            // with that on the tape which is read next
            behindAFault(c, text, number, sea -> "read() " + sea.read());
        }
    }

    private static void behindAFault(Check c, String text, int fault, Function<ThimbleSea, String> then) {
        ThimbleSea read = Unchanged.busy();
        read.back(42);
        Check.feed(read, text);
        c.due("read() of " + text, read.read(), fault);
        c.due("place() is of the FAULT", read.place() >= 0, true);
        ThimbleSea other = Unchanged.busy();
        other.back(42);
        c.alike("behind " + text, (then.apply(read) + Unchanged.shown(read)).replaceAll("place \\d+", "place -1"),
            then.apply(other) + Unchanged.shown(other));
    }

    @Sentence(promise = 4, says = "else it is in place of the one ahead: week 0, the BASIN empty, nothing can be undone, nothing is TOLD, SLOTS hold nothing.")
    static void p04_inPlaceOfTheOneAhead(Check c) {
        String next = "water b 4 2; heir z 2 4 0 9; sends z b = 6; basin 50; claim e = 1 of 1 z;";
        for (String text : new String[] {next, "", "basin 8;", Unchanged.TEXT}) {
            ThimbleSea sea = Unchanged.busy();
            Unchanged.shown(sea);
            sea.back(sea.count(8));
            Check.feed(sea, text);
            c.due("read()", sea.read(), 0);
            c.alike("behind " + text, Unchanged.shown(sea), Unchanged.shown(Check.sea(text)));
            c.due("count(4)", sea.count(4), 0);
            c.due("count(5)", sea.count(5), 0);
            c.due("count(7)", sea.count(7), 0);
            c.due("count(9)", sea.count(9), 0);
            c.due("count(10)", sea.count(10), 0);
            c.due("count(11)", sea.count(11), 0);
            c.due("salt()", sea.salt(), 0);
            c.due("undo()", sea.undo(), false);
            for (int slot = 0; slot < 3; slot++) {
                c.due("restore(" + slot + ")", sea.restore(slot), false);
            }
            c.due("forget()", sea.forget(), 0);
            c.due("run(3)", sea.run(3), 3);
        }
    }

    @Sentence(promise = 4, says = "else it is in place of the one ahead: week 0, the BASIN empty, nothing can be undone, nothing is TOLD, SLOTS hold nothing.")
    static void p04_nothingOfAnEarlierTextComesBack(Check c) {
        String small = "heir x 5 1 1 4; water a 3 1; sends x a = lot / 11; claim c = 2 of 1 x;";
        String[] texts = {Unchanged.TEXT, "", small, "basin 7; seed 5; dry = week + 1;", "seed 1; basin 0;", "water a 1 1; x"};
        for (String first : texts) {
            for (String second : texts) {
                for (String third : texts) {
                    ThimbleSea sea = new ThimbleSea();
                    String last = "";
                    for (String text : new String[] {first, second, third}) {
                        Check.feed(sea, text);
                        last = sea.read() == 0 ? text : last;
                        sea.thimble(4, 14, 5);
                        sea.explains(0, -1);
                    }
                    sea.run(3);
                    ThimbleSea fresh = Check.sea(last);
                    fresh.run(3);
                    c.alike("behind " + first + " and " + second + " and " + third, Unchanged.shown(sea).replaceAll("place -?\\d+", ""),
                        Unchanged.shown(fresh).replace("place -1", ""));
                }
            }
        }
    }

    // ---- Promise 5 --------------------------------------------------------------------------------

    @Sentence(promise = 5, says = "The byte of the latest read()'s FAULT; NONE without.")
    static void p05_ofTheLatestRead(Check c) {
        ThimbleSea sea = new ThimbleSea();
        c.due("place() ahead of all", sea.place(), -1);
        Check.feed(sea, "!");
        c.due("place() ahead of read()", sea.place(), -1);
        c.due("read()", sea.read(), 1);
        c.due("place()", sea.place(), 0);
        c.due("place() again", sea.place(), 0);
        Check.feed(sea, "   basin 0;");
        c.due("place() with another on the tape", sea.place(), 0);
        sea.run(2);
        sea.undo();
        sea.back(1);
        c.due("place() behind other things", sea.place(), 0);
        Check.feed(sea, ";");
        c.due("read() of another", sea.read(), 5);
        c.due("place() of another", sea.place(), 9);
        c.due("read() of the empty tape", sea.read(), 0);
        c.due("place() without", sea.place(), -1);
    }
}
