/**
 * A basin far inland to which heirs send drops of the sea, week by week, as a text tells it;
 * who owns how much, what would be, what might have been, and levels that were told.
 */
public final class ThimbleSea {
    public static final int NONE = -1;

    private static final int NOT = -2;
    private static final int NO_ABSENCE = -1000000;

    private static final int TEXT_MOST = 2000;
    private static final int FEED_BYTES = 20;
    private static final int TOKENS_MOST = 400;
    private static final int WATERS_MOST = 5;
    private static final int HEIRS_MOST = 8;
    private static final int SENDS_MOST = 16;
    private static final int CLAIMS_MOST = 6;
    private static final int TERMS_MOST = 6;
    private static final int IFS_MOST = 4;
    private static final int NESTED_MOST = 6;
    private static final int NAMES_MOST = WATERS_MOST + HEIRS_MOST + CLAIMS_MOST;
    private static final int CELLS = HEIRS_MOST * WATERS_MOST;

    private static final int BASIN_UNTOLD = 999;
    private static final int WEEKLY_MOST = 99;
    private static final int SALT_MOST = 1000000000;
    private static final int WEEKS_MOST = 200;
    private static final int PER_MOST = 99;
    private static final int ASKED_MOST = 999;
    private static final int THIMBLE_MOST = 60;
    private static final int UNDO_MOST = 30;
    private static final int SLOTS = 3;
    private static final int TOLD_MOST = 20;
    private static final int TOLD_WEEKS = 100;
    private static final int LEVEL_MOST = 9999;

    private static final int SYNTAX = 1;
    private static final int ROOM = 2;
    private static final int TWICE = 3;
    private static final int UNTOLD = 4;
    private static final int WRONG = 5;

    // Kinds of tokens: a sign's kind is its byte, a word's is 128 and its number in WORDS more.
    private static final int END = 0;
    private static final int BAD = 1;
    private static final int NAME = 2;
    private static final int INT = 3;
    private static final int FIRST_WORD = 128;
    private static final int WATER = 128;
    private static final int HEIR = 129;
    private static final int SENDS = 130;
    private static final int DRY = 131;
    private static final int BASIN = 132;
    private static final int CLAIM = 133;
    private static final int SEED = 134;
    private static final int OF = 135;
    private static final int IF = 136;
    private static final int THEN = 137;
    private static final int ELSE = 138;
    private static final int FIRST_VAR = 139;
    private static final int LAST_VAR = 144;
    private static final int WORD_COUNT = 17;
    private static final String WORDS =
        "water heir sends dry basin claim seed of if then else week level salt share sent lot ";
    private static final String SIGNS = ";=+-*/<()";

    private final Tape tape = new Tape();
    private final Reader reader = new Reader();
    private final Memory memory = new Memory();
    private final Told told = new Told();
    private final Rows rows = new Rows();
    private final Asking asking = new Asking();
    private final Sea sea = new Sea();
    private final Sea trial = new Sea();
    private final Sea otherTrial = new Sea();
    private Plan plan = new Plan();
    private Plan spare = new Plan();
    private int faultPlace = NONE;

    public ThimbleSea() {
        plan.clear();
        sea.begin(plan);
    }

    public int feed(int a, int b, int c, int d, int e) {
        if (tape.size > TEXT_MOST - FEED_BYTES) {
            return NONE;
        }
        tape.addFour(a);
        tape.addFour(b);
        tape.addFour(c);
        tape.addFour(d);
        tape.addFour(e);
        return tape.size;
    }

    public int back(int n) {
        if (n < 0 || n > tape.size) {
            return NONE;
        }
        tape.size -= n;
        return tape.size;
    }

    public int read() {
        int fault = reader.parse(tape, spare);
        tape.size = 0;
        faultPlace = reader.place;
        if (fault != 0) {
            return fault;
        }
        Plan earlier = plan;
        plan = spare;
        spare = earlier;
        sea.begin(plan);
        memory.clear();
        told.clear();
        rows.clear();
        return 0;
    }

    public int place() {
        return faultPlace;
    }

    public int heir(int heir, int what) {
        if (!plan.hasHeir(heir)) {
            return NONE;
        }
        switch (what) {
            case 0: return sea.dropsOf(heir);
            case 1: return sea.islands[heir];
            case 2: return sea.shares[heir];
            case 3: return sea.sent[heir];
            case 4: return sea.dueOf(heir);
            case 5: return sea.rankOf(heir, plan.heirs);
            default: return NONE;
        }
    }

    public int drops(int heir, int water) {
        if (heir != NONE && !plan.hasHeir(heir) || water != NONE && !plan.hasWater(water)) {
            return NONE;
        }
        return sea.dropsWithin(heir, water);
    }

    public int salt() {
        return sea.salt;
    }

    public int owns(int heir, boolean below) {
        if (!plan.hasHeir(heir)) {
            return NONE;
        }
        int own = sea.dropsOf(heir);
        int all = Math.max(1, sea.level);
        int common = (int) greatestDivisor(own, all);
        return (below ? all : own) / common;
    }

    public long claim(int claim, boolean below) {
        if (claim < 0 || claim >= plan.will.claims) {
            return NONE;
        }
        return plan.will.sum(claim, sea, below);
    }

    public int ranked(int rank) {
        return sea.heirOfRank(rank, plan.heirs);
    }

    public int run(int n) {
        if (n < 0 || n > WEEKS_MOST) {
            return NONE;
        }
        if (n > 0) {
            memory.remember(sea);
            sea.passWeeks(plan, n, NONE);
        }
        return sea.week;
    }

    public int tells(int sends) {
        if (sends < 0 || sends >= plan.sends) {
            return NONE;
        }
        return sea.toldBy(plan, sends);
    }

    public int merge(int heir, int other) {
        if (!areTwo(heir, other)) {
            return NONE;
        }
        memory.remember(sea);
        return sea.mergeInto(heir, other);
    }

    public int split(int heir, int other, int p, int q) {
        if (!areTwo(heir, other) || q < 1 || q > PER_MOST || p < 0 || p > q) {
            return NONE;
        }
        memory.remember(sea);
        return sea.move(heir, other, p, q);
    }

    public int spoon(int n) {
        if (n < 1 || n > sea.level) {
            return NONE;
        }
        memory.remember(sea);
        return sea.takeOut(n);
    }

    public boolean undo() {
        return memory.recall(sea);
    }

    public int enough(int n) {
        if (n < 0) {
            return NONE;
        }
        trial.copyFrom(sea);
        for (int weeks = 0; weeks <= WEEKS_MOST; weeks++) {
            if (trial.level >= n) {
                return weeks;
            }
            trial.passWeek(plan, NONE);
        }
        return NOT;
    }

    public int salty(int t) {
        if (t < 0) {
            return NONE;
        }
        trial.copyFrom(sea);
        for (int weeks = 0; weeks <= WEEKS_MOST; weeks++) {
            if (trial.saltiness() >= t) {
                return weeks;
            }
            trial.passWeek(plan, NONE);
        }
        return NOT;
    }

    public int crossed(int p, int q, int what) {
        if (q < 1 || q > PER_MOST || p < 1 || p > q || what < 0 || what > 1) {
            return NONE;
        }
        trial.copyFrom(sea);
        for (int weeks = 0; weeks <= WEEKS_MOST; weeks++) {
            // Whoever has the most drops crosses if anybody does.
            int first = trial.heirOfRank(0, plan.heirs);
            if (first != NONE && trial.level > 0 && trial.dropsOf(first) * q >= trial.level * p) {
                return what == 0 ? weeks : first;
            }
            trial.passWeek(plan, NONE);
        }
        return NOT;
    }

    public int league() {
        int best = NOT;
        int fewest = HEIRS_MOST + 1;
        for (int bits = 0; bits < 1 << plan.heirs; bits++) {
            if (Integer.bitCount(bits) < fewest && sea.wins(bits)) {
                best = bits;
                fewest = Integer.bitCount(bits);
            }
        }
        return best;
    }

    public int power(int heir) {
        if (!plan.hasHeir(heir)) {
            return NONE;
        }
        int own = 1 << heir;
        int sets = 0;
        for (int bits = 0; bits < 1 << plan.heirs; bits++) {
            if ((bits & own) != 0 && sea.wins(bits) && !sea.wins(bits & ~own)) {
                sets++;
            }
        }
        return sets;
    }

    public int without(int heir, int n, int b) {
        if (!plan.hasHeir(heir) || n < 1 || n > WEEKS_MOST || b != NONE && !plan.hasHeir(b)) {
            return NO_ABSENCE;
        }
        trial.copyFrom(sea);
        trial.passWeeks(plan, n, NONE);
        otherTrial.copyFrom(sea);
        otherTrial.passWeeks(plan, n, heir);
        if (b == NONE) {
            return trial.level - otherTrial.level;
        }
        return otherTrial.dropsOf(b) - trial.dropsOf(b);
    }

    public int asked(int n, int what) {
        if (n < 1 || n > ASKED_MOST || what < 0 || what > 1) {
            return NONE;
        }
        asking.search(plan, n);
        if (asking.least == NONE) {
            return NOT;
        }
        return what == 0 ? asking.least : asking.bits;
    }

    public int gives(int n, int heir) {
        if (n < 1 || n > ASKED_MOST || !plan.hasHeir(heir)) {
            return NONE;
        }
        asking.search(plan, n);
        return asking.least == NONE ? NOT : asking.gifts[heir];
    }

    public long thimble(int n, int salt, int colour) {
        if (!isThimble(n, salt, colour)) {
            return NONE;
        }
        rows.search(plan, n, salt, colour);
        return rows.found;
    }

    public int surely(int n, int salt, int colour) {
        if (!isThimble(n, salt, colour)) {
            return NONE;
        }
        rows.search(plan, n, salt, colour);
        return rows.found == 0 ? 0 : rows.always;
    }

    public int firstRow(int n, int salt, int colour, int water) {
        if (!isThimble(n, salt, colour) || !plan.hasWater(water)) {
            return NONE;
        }
        rows.search(plan, n, salt, colour);
        return rows.found == 0 ? NOT : rows.first[water];
    }

    public int tell(int week, int level) {
        if (week < 0 || week >= TOLD_WEEKS || level < 0 || level > LEVEL_MOST) {
            return NONE;
        }
        return told.add(week, level);
    }

    public int forget() {
        int before = told.size;
        told.clear();
        return before;
    }

    public int forged(int k) {
        if (k < 0 || k > told.size) {
            return NONE;
        }
        return told.firstForged(k, plan, trial);
    }

    public int explains(int k, int i) {
        if (k < 0 || k > told.size || i < NONE) {
            return NONE;
        }
        told.search(k, plan, trial, otherTrial);
        return i == NONE ? told.foundInAll() : told.foundAt(i);
    }

    public boolean hold(int slot) {
        return memory.keep(slot, sea);
    }

    public boolean restore(int slot) {
        return memory.bring(slot, sea);
    }

    public int count(int what) {
        switch (what) {
            case 0: return plan.waters;
            case 1: return plan.heirs;
            case 2: return plan.sends;
            case 3: return plan.will.claims;
            case 4: return sea.week;
            case 5: return sea.level;
            case 6: return plan.basin;
            case 7: return total(sea.islands);
            case 8: return tape.size;
            case 9: return memory.size;
            case 10: return told.size;
            case 11: return memory.slotsHeld();
            case 12: return (int) Math.min(SALT_MOST, sea.saltiness());
            default: return NONE;
        }
    }

    private boolean areTwo(int heir, int other) {
        return plan.hasHeir(heir) && plan.hasHeir(other) && heir != other;
    }

    private static boolean isThimble(int n, int salt, int colour) {
        return n >= 0 && n <= THIMBLE_MOST && salt >= 0 && colour >= 0;
    }

    private static int total(int[] numbers) {
        int sum = 0;
        for (int i = 0; i < numbers.length; i++) {
            sum += numbers[i];
        }
        return sum;
    }

    /** Of a, 0 or more, and b, 1 or more: 1 or more. */
    private static long greatestDivisor(long a, long b) {
        long greater = b;
        long less = a;
        for (int step = 0; step < 1000 && less != 0; step++) {
            long rest = greater % less;
            greater = less;
            less = rest;
        }
        return Math.max(1, greater);
    }

    /** The bytes that have been fed and not read. */
    private static final class Tape {
        private final int[] bytes = new int[TEXT_MOST];
        int size = 0;

        /** The highest byte first; the caller has seen to the room. */
        void addFour(int word) {
            for (int shift = 24; shift >= 0 && size < TEXT_MOST; shift -= 8) {
                bytes[size] = word >>> shift & 255;
                size++;
            }
        }

        /** NONE behind the end. */
        int byteAt(int place) {
            return place >= 0 && place < size ? bytes[place] : NONE;
        }
    }

    /** The tokens of a tape, of which those behind the 401st are never looked at. */
    private static final class Tokens {
        private final int[] kinds = new int[TOKENS_MOST + 1];
        private final int[] places = new int[TOKENS_MOST + 1];
        private final long[] values = new long[TOKENS_MOST + 1];
        private final long[] words = new long[WORD_COUNT];
        private int size = 0;
        private int textSize = 0;

        Tokens() {
            int word = 0;
            for (int i = 0; i < WORDS.length() && word < WORD_COUNT; i++) {
                if (WORDS.charAt(i) == ' ') {
                    word++;
                } else {
                    words[word] = withLetter(words[word], WORDS.charAt(i));
                }
            }
        }

        int kindAt(int index) {
            return index >= 0 && index < size ? kinds[index] : END;
        }

        int placeAt(int index) {
            return index >= 0 && index < size ? places[index] : textSize;
        }

        /** An INT's number, a NAME's letters as one number. */
        long valueAt(int index) {
            return index >= 0 && index < size ? values[index] : 0;
        }

        void scan(Tape tape) {
            size = 0;
            textSize = tape.size;
            int at = 0;
            for (int step = 0; step < TEXT_MOST && at < textSize && size <= TOKENS_MOST; step++) {
                int sign = tape.byteAt(at);
                int end = at + 1;
                if (isLetter(sign)) {
                    end = addLetters(tape, at);
                } else if (isDigit(sign)) {
                    end = addDigits(tape, at);
                } else if (!isBlank(sign)) {
                    add(SIGNS.indexOf((char) sign) >= 0 ? sign : BAD, at, 0);
                }
                at = end;
            }
        }

        private int addLetters(Tape tape, int from) {
            long letters = 0;
            int end = from;
            while (end < textSize && isLetter(tape.byteAt(end))) {
                letters = withLetter(letters, tape.byteAt(end));
                end++;
            }
            if (end - from > 8) {
                add(BAD, from, 0);
            } else {
                add(kindOf(letters), from, letters);
            }
            return end;
        }

        private int addDigits(Tape tape, int from) {
            long number = 0;
            int end = from;
            while (end < textSize && isDigit(tape.byteAt(end))) {
                number = number * 10 + tape.byteAt(end) - '0';
                end++;
            }
            add(end - from > 4 ? BAD : INT, from, number);
            return end;
        }

        private void add(int kind, int place, long value) {
            if (size < kinds.length) {
                kinds[size] = kind;
                places[size] = place;
                values[size] = value;
                size++;
            }
        }

        private int kindOf(long letters) {
            for (int word = 0; word < WORD_COUNT; word++) {
                if (words[word] == letters) {
                    return FIRST_WORD + word;
                }
            }
            return NAME;
        }

        /** Five bits a letter: eight letters never meet another eight. */
        private static long withLetter(long letters, int letter) {
            return letters << 5 | letter - 'a' + 1;
        }

        private static boolean isLetter(int sign) {
            return sign >= 'a' && sign <= 'z';
        }

        private static boolean isDigit(int sign) {
            return sign >= '0' && sign <= '9';
        }

        private static boolean isBlank(int sign) {
            return sign == 9 || sign == 10 || sign == 13 || sign == 32;
        }
    }

    /** Reads a text into a plan and finds its FAULT. Each part answers false once reading has to stop. */
    private static final class Reader {
        private final Tokens tokens = new Tokens();
        private final long[] names = new long[NAMES_MOST];
        private final int[] nameKinds = new int[NAMES_MOST];
        private final int[] nameNumbers = new int[NAMES_MOST];
        private int nameCount = 0;
        private Plan plan = null;
        private int at = 0;
        private int latest = 0;
        private int fault = 0;
        private int slip = 0;
        private int slipPlace = NONE;
        int place = NONE;

        /** The FAULT's number, 0 without one. */
        int parse(Tape tape, Plan into) {
            tokens.scan(tape);
            plan = into;
            plan.clear();
            nameCount = 0;
            at = 0;
            fault = 0;
            slip = 0;
            slipPlace = NONE;
            boolean goesOn = true;
            for (int tells = 0; goesOn && tells <= TOKENS_MOST && tokens.kindAt(at) != END; tells++) {
                switch (tokens.kindAt(at)) {
                    case WATER: goesOn = readWater(); break;
                    case HEIR: goesOn = readHeir(); break;
                    case SENDS: goesOn = readSends(); break;
                    case DRY: goesOn = readDry(); break;
                    case BASIN: goesOn = readBasin(); break;
                    case CLAIM: goesOn = readClaim(); break;
                    case SEED: goesOn = readSeed(); break;
                    default: goesOn = refuse(SYNTAX); break;
                }
            }
            // What a text means counts only where its form is without FAULT.
            if (fault != 0) {
                place = tokens.placeAt(at);
                return fault;
            }
            place = slipPlace;
            return slip;
        }

        private boolean readWater() {
            int water = plan.waters;
            if (!opens(WATER, water, WATERS_MOST) || !newName(WATER, water) || !number(0, 99)) {
                return false;
            }
            plan.salts[water] = latest;
            if (!number(0, 9)) {
                return false;
            }
            plan.colours[water] = latest;
            plan.waters = water + 1;
            return accept(';');
        }

        private boolean readHeir() {
            int heir = plan.heirs;
            if (!opens(HEIR, heir, HEIRS_MOST) || !newName(HEIR, heir) || !number(1, 99)) {
                return false;
            }
            plan.shares[heir] = latest;
            if (!number(0, 99)) {
                return false;
            }
            plan.prices[heir] = latest;
            if (!number(0, 999)) {
                return false;
            }
            plan.fees[heir] = latest;
            if (!number(0, 999)) {
                return false;
            }
            plan.mosts[heir] = latest;
            plan.heirs = heir + 1;
            return accept(';');
        }

        private boolean readSends() {
            int sends = plan.sends;
            if (!opens(SENDS, sends, SENDS_MOST) || !oldName(HEIR)) {
                return false;
            }
            plan.senders[sends] = latest;
            if (!oldName(WATER)) {
                return false;
            }
            plan.sentWaters[sends] = latest;
            plan.sentLaws[sends] = plan.laws.size;
            plan.sends = sends + 1;
            return law() && accept(';');
        }

        private boolean readDry() {
            plan.dry = plan.laws.size;
            return accept(DRY) && law() && accept(';');
        }

        private boolean readBasin() {
            if (!accept(BASIN) || !number(1, LEVEL_MOST)) {
                return false;
            }
            plan.basin = latest;
            return accept(';');
        }

        private boolean readSeed() {
            if (!accept(SEED) || !number(0, 9999)) {
                return false;
            }
            plan.seed = latest;
            return accept(';');
        }

        private boolean readClaim() {
            int claim = plan.will.claims;
            if (!opens(CLAIM, claim, CLAIMS_MOST) || !newName(CLAIM, claim) || !accept('=')) {
                return false;
            }
            plan.will.open();
            for (int terms = 0; terms <= TERMS_MOST; terms++) {
                if (!readTerm(terms)) {
                    return false;
                }
                if (tokens.kindAt(at) != '+') {
                    return accept(';');
                }
                if (!accept('+')) {
                    return false;
                }
            }
            return false;
        }

        private boolean readTerm(int termsAhead) {
            if (tokens.kindAt(at) == INT && termsAhead >= TERMS_MOST) {
                return refuse(ROOM);
            }
            if (!number(1, PER_MOST)) {
                return false;
            }
            int part = latest;
            if (!accept(OF) || !number(1, PER_MOST)) {
                return false;
            }
            int whole = latest;
            if (!oldName(HEIR)) {
                return false;
            }
            plan.will.addTerm(part, whole, latest);
            return true;
        }

        private boolean law() {
            Laws laws = plan.laws;
            if (!accept('=')) {
                return false;
            }
            for (int ifs = 0; ifs <= IFS_MOST && tokens.kindAt(at) == IF; ifs++) {
                if (ifs == IFS_MOST) {
                    return refuse(ROOM);
                }
                if (!accept(IF) || !sum(0) || !accept('<') || !sum(0) || !accept(THEN)) {
                    return false;
                }
                laws.emit(Laws.UNLESS);
                int gap = laws.size;
                laws.emit(0);
                if (!sum(0) || !accept(ELSE)) {
                    return false;
                }
                laws.emit(Laws.STOP);
                laws.fill(gap, laws.size);
            }
            if (!sum(0)) {
                return false;
            }
            laws.emit(Laws.STOP);
            return true;
        }

        /** An E: a * or / is emitted behind its second UNIT, a + or - only when its second PART has ended. */
        private boolean sum(int nested) {
            int adding = END;
            int multiplying = END;
            for (int units = 0; units <= TOKENS_MOST; units++) {
                if (!unit(nested)) {
                    return false;
                }
                plan.laws.emitSign(multiplying);
                multiplying = END;
                int sign = tokens.kindAt(at);
                if (sign == '*' || sign == '/') {
                    multiplying = sign;
                } else {
                    plan.laws.emitSign(adding);
                    adding = sign;
                }
                if (sign != '*' && sign != '/' && sign != '+' && sign != '-') {
                    return true;
                }
                if (!accept(sign)) {
                    return false;
                }
            }
            return false;
        }

        private boolean unit(int nested) {
            int kind = tokens.kindAt(at);
            if (kind == INT) {
                plan.laws.emit((int) tokens.valueAt(at));
                return accept(INT);
            }
            if (kind >= FIRST_VAR && kind <= LAST_VAR) {
                plan.laws.emit(Laws.FIRST_LOOK - (kind - FIRST_VAR));
                return accept(kind);
            }
            if (kind == '(' && nested >= NESTED_MOST) {
                return refuse(ROOM);
            }
            return accept('(') && sum(nested + 1) && accept(')');
        }

        /** The word that opens one more of what there may be so many of. */
        private boolean opens(int word, int ahead, int most) {
            return ahead >= most ? refuse(ROOM) : accept(word);
        }

        private boolean number(int least, int most) {
            long value = tokens.valueAt(at);
            if (!accept(INT)) {
                return false;
            }
            latest = (int) value;
            if (latest < least || latest > most) {
                noteSlip(WRONG);
            }
            return true;
        }

        private boolean newName(int kind, int number) {
            long name = tokens.valueAt(at);
            if (!accept(NAME)) {
                return false;
            }
            if (indexOf(name) != NONE) {
                noteSlip(TWICE);
            } else if (nameCount < NAMES_MOST) {
                names[nameCount] = name;
                nameKinds[nameCount] = kind;
                nameNumbers[nameCount] = number;
                nameCount++;
            }
            return true;
        }

        private boolean oldName(int kind) {
            int index = indexOf(tokens.valueAt(at));
            if (!accept(NAME)) {
                return false;
            }
            latest = 0;
            if (index == NONE || nameKinds[index] != kind) {
                noteSlip(UNTOLD);
            } else {
                latest = nameNumbers[index];
            }
            return true;
        }

        private int indexOf(long name) {
            for (int index = 0; index < nameCount; index++) {
                if (names[index] == name) {
                    return index;
                }
            }
            return NONE;
        }

        private boolean accept(int kind) {
            if (tokens.kindAt(at) != kind) {
                return refuse(SYNTAX);
            }
            if (at >= TOKENS_MOST) {
                return refuse(ROOM);
            }
            at++;
            return true;
        }

        private boolean refuse(int number) {
            fault = number;
            return false;
        }

        /** Of the token just accepted; the first one stays. */
        private void noteSlip(int number) {
            if (slip == 0) {
                slip = number;
                slipPlace = tokens.placeAt(at - 1);
            }
        }
    }

    /** What a text tells. */
    private static final class Plan {
        final int[] salts = new int[WATERS_MOST];
        final int[] colours = new int[WATERS_MOST];
        final int[] shares = new int[HEIRS_MOST];
        final int[] prices = new int[HEIRS_MOST];
        final int[] fees = new int[HEIRS_MOST];
        final int[] mosts = new int[HEIRS_MOST];
        final int[] senders = new int[SENDS_MOST];
        final int[] sentWaters = new int[SENDS_MOST];
        final int[] sentLaws = new int[SENDS_MOST];
        final Laws laws = new Laws();
        final Will will = new Will();
        int waters = 0;
        int heirs = 0;
        int sends = 0;
        int dry = NONE;
        int basin = BASIN_UNTOLD;
        int seed = 0;

        void clear() {
            waters = 0;
            heirs = 0;
            sends = 0;
            dry = NONE;
            basin = BASIN_UNTOLD;
            seed = 0;
            laws.size = 0;
            will.clear();
        }

        boolean hasHeir(int heir) {
            return heir >= 0 && heir < heirs;
        }

        boolean hasWater(int water) {
            return water >= 0 && water < waters;
        }
    }

    /** All LAWS of a text, each as cells for a machine with a stack. */
    private static final class Laws {
        // A cell from 0 on is an INT; FIRST_LOOK and below it are the six VARS.
        static final int FIRST_LOOK = -1;
        static final int LOT = -6;
        static final int PLUS = -7;
        static final int MINUS = -8;
        static final int TIMES = -9;
        static final int BY = -10;
        /** Goes on at the place in the next cell unless one is less than the other. */
        static final int UNLESS = -11;
        static final int STOP = -12;

        private static final int LOTS = 1000;
        // No token makes more than two cells.
        private static final int CELLS_MOST = 2 * TOKENS_MOST + 2;
        // Six ( within one another leave two open operands each, and a < one more.
        private static final int STACK_MOST = 32;

        private final int[] code = new int[CELLS_MOST];
        private final int[] stack = new int[STACK_MOST];
        private final int[] looks = new int[5];
        private int depth = 0;
        private int seed = 0;
        private int which = 0;
        int size = 0;

        void emit(int cell) {
            if (size < CELLS_MOST) {
                code[size] = cell;
                size++;
            }
        }

        void emitSign(int sign) {
            switch (sign) {
                case '+': emit(PLUS); break;
                case '-': emit(MINUS); break;
                case '*': emit(TIMES); break;
                case '/': emit(BY); break;
                default: break;
            }
        }

        void fill(int place, int cell) {
            if (place >= 0 && place < size) {
                code[place] = cell;
            }
        }

        void look(int week, int level, int salt, int share, int sent) {
            looks[0] = week;
            looks[1] = level;
            looks[2] = salt;
            looks[3] = share;
            looks[4] = sent;
        }

        void drawFrom(int seed, int which) {
            this.seed = seed;
            this.which = which;
        }

        /** Of the LAW that stands from a place on, by what was looked at and drawn from last. */
        int value(int place) {
            int at = place;
            depth = 0;
            for (int step = 0; step < CELLS_MOST && at >= 0 && at < size; step++) {
                int cell = code[at];
                at++;
                if (cell == STOP) {
                    return pop();
                }
                if (cell == UNLESS) {
                    int right = pop();
                    int left = pop();
                    at = left < right ? at + 1 : target(at);
                } else if (cell >= LOT) {
                    push(cell);
                } else {
                    int right = pop();
                    if (cell == BY && right == 0) {
                        return 0;
                    }
                    operate(cell, right);
                }
            }
            return 0;
        }

        private int target(int place) {
            return place < size ? code[place] : NONE;
        }

        private void push(int cell) {
            int number = cell;
            if (cell == LOT) {
                number = (mixed(mixed(seed, 24), which) >>> 1) % LOTS;
            } else if (cell < 0) {
                number = looks[FIRST_LOOK - cell];
            }
            put(number);
        }

        private void operate(int cell, int right) {
            int left = pop();
            if (cell == PLUS) {
                put(left + right);
            } else if (cell == MINUS) {
                put(left - right);
            } else if (cell == TIMES) {
                put(left * right);
            } else if (right != 0) {
                put(left / right);
            }
        }

        private void put(int number) {
            if (depth < STACK_MOST) {
                stack[depth] = number;
                depth++;
            }
        }

        private int pop() {
            if (depth <= 0) {
                return 0;
            }
            depth--;
            return stack[depth];
        }

        private static int mixed(int h, int it) {
            int next = (h ^ it) * 1103515245 + 12345;
            return next ^ next >>> 15;
        }
    }

    /** The CLAIMS: TERMS one behind the other, and where those of each CLAIM end. */
    private static final class Will {
        private final int[] parts = new int[CLAIMS_MOST * TERMS_MOST];
        private final int[] wholes = new int[CLAIMS_MOST * TERMS_MOST];
        private final int[] owners = new int[CLAIMS_MOST * TERMS_MOST];
        private final int[] ends = new int[CLAIMS_MOST];
        private int terms = 0;
        int claims = 0;

        void clear() {
            claims = 0;
            terms = 0;
        }

        void open() {
            if (claims < CLAIMS_MOST) {
                ends[claims] = terms;
                claims++;
            }
        }

        /** Of the CLAIM opened last. */
        void addTerm(int part, int whole, int owner) {
            if (claims > 0 && terms < parts.length) {
                parts[terms] = part;
                wholes[terms] = whole;
                owners[terms] = owner;
                terms++;
                ends[claims - 1] = terms;
            }
        }

        long sum(int claim, Sea sea, boolean below) {
            long above = 0;
            long under = 1;
            for (int term = claim == 0 ? 0 : ends[claim - 1]; term < ends[claim]; term++) {
                long drops = sea.dropsOf(owners[term]);
                above = above * wholes[term] + under * parts[term] * drops;
                under = under * wholes[term];
                long common = greatestDivisor(above, under);
                above = above / common;
                under = under / common;
            }
            return below ? under : above;
        }
    }

    /** The BASIN at some week: whose drops of which WATER, SALT, ISLANDS, SHARES. */
    private static final class Sea {
        private final int[] drops = new int[CELLS];
        private final int[] rests = new int[CELLS];
        final int[] islands = new int[HEIRS_MOST];
        final int[] shares = new int[HEIRS_MOST];
        final int[] sent = new int[HEIRS_MOST];
        int level = 0;
        int salt = 0;
        int week = 0;

        void begin(Plan plan) {
            for (int cell = 0; cell < CELLS; cell++) {
                drops[cell] = 0;
            }
            for (int heir = 0; heir < HEIRS_MOST; heir++) {
                islands[heir] = 0;
                shares[heir] = heir < plan.heirs ? plan.shares[heir] : 0;
                sent[heir] = 0;
            }
            level = 0;
            salt = 0;
            week = 0;
        }

        void copyFrom(Sea from) {
            System.arraycopy(from.drops, 0, drops, 0, CELLS);
            System.arraycopy(from.islands, 0, islands, 0, HEIRS_MOST);
            System.arraycopy(from.shares, 0, shares, 0, HEIRS_MOST);
            System.arraycopy(from.sent, 0, sent, 0, HEIRS_MOST);
            level = from.level;
            salt = from.salt;
            week = from.week;
        }

        int dropsOf(int heir) {
            return dropsWithin(heir, NONE);
        }

        /** NONE: of all HEIRS, of all WATERS. */
        int dropsWithin(int heir, int water) {
            int firstHeir = heir == NONE ? 0 : heir;
            int lastHeir = heir == NONE ? HEIRS_MOST - 1 : heir;
            int firstWater = water == NONE ? 0 : water;
            int lastWater = water == NONE ? WATERS_MOST - 1 : water;
            int sum = 0;
            for (int h = firstHeir; h <= lastHeir; h++) {
                for (int w = firstWater; w <= lastWater; w++) {
                    sum += drops[h * WATERS_MOST + w];
                }
            }
            return sum;
        }

        int dueOf(int heir) {
            return level * shares[heir] / Math.max(1, total(shares));
        }

        int rankOf(int heir, int heirs) {
            int own = dropsOf(heir);
            int rank = 0;
            for (int h = 0; h < heirs; h++) {
                int theirs = dropsOf(h);
                if (theirs > own || theirs == own && h < heir) {
                    rank++;
                }
            }
            return rank;
        }

        int heirOfRank(int rank, int heirs) {
            for (int heir = 0; heir < heirs; heir++) {
                if (rankOf(heir, heirs) == rank) {
                    return heir;
                }
            }
            return NONE;
        }

        /** SALT times 1000 by drops. */
        long saltiness() {
            return level > 0 ? salt * 1000L / level : 0;
        }

        boolean wins(int bits) {
            int sum = 0;
            for (int heir = 0; heir < HEIRS_MOST; heir++) {
                if ((bits >> heir & 1) != 0) {
                    sum += dropsOf(heir);
                }
            }
            return 2 * sum > level;
        }

        void passWeeks(Plan plan, int weeks, int absent) {
            for (int i = 0; i < weeks; i++) {
                passWeek(plan, absent);
            }
        }

        /** All SENDS of the absent HEIR tell 0 (NONE: nobody is absent). */
        void passWeek(Plan plan, int absent) {
            for (int sends = 0; sends < plan.sends; sends++) {
                if (plan.senders[sends] != absent) {
                    letIn(plan, sends, toldBy(plan, sends));
                }
            }
            if (plan.dry != NONE) {
                plan.laws.look(week, level, salt, total(shares), total(sent));
                plan.laws.drawFrom(plan.seed, 20 * week + 19);
                dryUp(Math.max(0, Math.min(level, plan.laws.value(plan.dry))));
            }
            week++;
        }

        int toldBy(Plan plan, int sends) {
            int heir = plan.senders[sends];
            plan.laws.look(week, level, salt, shares[heir], sent[heir]);
            plan.laws.drawFrom(plan.seed, 20 * week + sends);
            return Math.max(0, Math.min(WEEKLY_MOST, plan.laws.value(plan.sentLaws[sends])));
        }

        private void letIn(Plan plan, int sends, int number) {
            int heir = plan.senders[sends];
            int water = plan.sentWaters[sends];
            int comesIn = Math.min(number, plan.basin - level);
            islands[heir] += number - comesIn;
            drops[heir * WATERS_MOST + water] += comesIn;
            sent[heir] += comesIn;
            level += comesIn;
            salt = Math.min(SALT_MOST, salt + comesIn * plan.salts[water]);
        }

        /** So many drops go, 0 .. all, of each HEIR and WATER as near to its part as whole drops can be. */
        void dryUp(int number) {
            if (level <= 0 || number <= 0) {
                return;
            }
            int lacking = number;
            for (int cell = 0; cell < CELLS; cell++) {
                int gone = drops[cell] * number / level;
                rests[cell] = drops[cell] * number % level;
                drops[cell] -= gone;
                lacking -= gone;
            }
            // Fewer drops are lacking than there are cells with a rest, so no cell is taken twice.
            for (int i = 0; i < lacking; i++) {
                int most = 0;
                for (int cell = 1; cell < CELLS; cell++) {
                    if (rests[cell] > rests[most]) {
                        most = cell;
                    }
                }
                drops[most]--;
                rests[most] = 0;
            }
            level -= number;
        }

        int takeOut(int number) {
            int goes = level > 0 ? (int) ((long) salt * number / level) : 0;
            dryUp(number);
            salt -= goes;
            return goes;
        }

        int mergeInto(int heir, int other) {
            islands[other] += islands[heir];
            islands[heir] = 0;
            shares[other] += shares[heir];
            shares[heir] = 0;
            return move(heir, other, 1, 1);
        }

        /** Of each WATER p of q of one HEIR's drops become another's: how many. */
        int move(int heir, int other, int p, int q) {
            int moved = 0;
            for (int water = 0; water < WATERS_MOST; water++) {
                int part = drops[heir * WATERS_MOST + water] * p / Math.max(1, q);
                drops[heir * WATERS_MOST + water] -= part;
                drops[other * WATERS_MOST + water] += part;
                moved += part;
            }
            return moved;
        }
    }

    /** What was ahead of the last things done, and what is held in SLOTS. */
    private static final class Memory {
        private final Sea[] earlier = new Sea[UNDO_MOST];
        private final Sea[] slots = new Sea[SLOTS];
        private final boolean[] held = new boolean[SLOTS];
        private int next = 0;
        int size = 0;

        Memory() {
            for (int i = 0; i < UNDO_MOST; i++) {
                earlier[i] = new Sea();
            }
            for (int slot = 0; slot < SLOTS; slot++) {
                slots[slot] = new Sea();
            }
        }

        void clear() {
            size = 0;
            for (int slot = 0; slot < SLOTS; slot++) {
                held[slot] = false;
            }
        }

        void remember(Sea sea) {
            earlier[next].copyFrom(sea);
            next = (next + 1) % UNDO_MOST;
            size = Math.min(UNDO_MOST, size + 1);
        }

        boolean recall(Sea sea) {
            if (size == 0) {
                return false;
            }
            next = (next + UNDO_MOST - 1) % UNDO_MOST;
            size--;
            sea.copyFrom(earlier[next]);
            return true;
        }

        boolean keep(int slot, Sea sea) {
            if (slot < 0 || slot >= SLOTS) {
                return false;
            }
            slots[slot].copyFrom(sea);
            held[slot] = true;
            return true;
        }

        boolean bring(int slot, Sea sea) {
            if (slot < 0 || slot >= SLOTS || !held[slot]) {
                return false;
            }
            sea.copyFrom(slots[slot]);
            size = 0;
            return true;
        }

        int slotsHeld() {
            int sum = 0;
            for (int slot = 0; slot < SLOTS; slot++) {
                sum += held[slot] ? 1 : 0;
            }
            return sum;
        }
    }

    /** Whom to ask for how much at the least sum. */
    private static final class Asking {
        private final int[] order = new int[HEIRS_MOST];
        final int[] gifts = new int[HEIRS_MOST];
        /** NONE: not so many can be had. */
        int least = NONE;
        int bits = 0;

        void search(Plan plan, int n) {
            sortByPrice(plan);
            least = NONE;
            bits = 0;
            // The sets come by their bits, so the first of alike ones stays; one in which
            // somebody gives none comes behind the one without him, which costs no more.
            for (int set = 1; set < 1 << plan.heirs; set++) {
                int sum = spread(plan, n, set);
                if (sum != NONE && (least == NONE || sum < least)) {
                    least = sum;
                    bits = set;
                }
            }
            spread(plan, n, bits);
        }

        /** The sum if just these HEIRS give, the cheapest first; NONE: they have not so many. */
        private int spread(Plan plan, int n, int set) {
            int sum = 0;
            int lacking = n;
            for (int i = 0; i < plan.heirs; i++) {
                int heir = order[i];
                int gift = (set >> heir & 1) != 0 ? Math.min(lacking, plan.mosts[heir]) : 0;
                gifts[heir] = gift;
                lacking -= gift;
                sum += gift > 0 ? gift * plan.prices[heir] + plan.fees[heir] : 0;
            }
            return lacking == 0 ? sum : NONE;
        }

        private void sortByPrice(Plan plan) {
            for (int heir = 0; heir < plan.heirs; heir++) {
                int at = heir;
                while (at > 0 && plan.prices[order[at - 1]] > plan.prices[heir]) {
                    order[at] = order[at - 1];
                    at--;
                }
                order[at] = heir;
            }
        }
    }

    /** What may have been in a THIMBLE: rows of numbers, one for each WATER. */
    private static final class Rows {
        private final int[] row = new int[WATERS_MOST];
        final int[] first = new int[WATERS_MOST];
        /** WATERS of which there is some in all rows found. */
        int always = 0;
        long found = 0;
        private int soughtNumber = NONE;
        private int soughtSalt = 0;
        private int soughtColour = 0;

        void clear() {
            soughtNumber = NONE;
        }

        void search(Plan plan, int n, int salt, int colour) {
            if (n == soughtNumber && salt == soughtSalt && colour == soughtColour) {
                return;
            }
            soughtNumber = n;
            soughtSalt = salt;
            soughtColour = colour;
            found = 0;
            always = (1 << plan.waters) - 1;
            fillFrom(plan, 0, n, salt, colour);
        }

        /** So many drops, so much SALT and COLOUR are left for this WATER and those behind it. */
        private void fillFrom(Plan plan, int water, int n, int salt, int colour) {
            int left = plan.waters - water;
            if (left <= 0) {
                if (n == 0 && salt == 0 && colour == 0) {
                    keepRows(1);
                }
            } else if (left == 2) {
                fillTwo(plan, water, n, salt, colour);
            } else {
                for (int number = 0; number <= n; number++) {
                    row[water] = number;
                    int saltLeft = salt - number * plan.salts[water];
                    int colourLeft = colour - number * plan.colours[water];
                    if (saltLeft >= 0 && colourLeft >= 0) {
                        fillFrom(plan, water + 1, n - number, saltLeft, colourLeft);
                    }
                }
            }
        }

        /** Of the last two WATERS one number is the other's rest, so they need no search. */
        private void fillTwo(Plan plan, int water, int n, int salt, int colour) {
            int next = water + 1;
            int perSalt = plan.salts[water] - plan.salts[next];
            int perColour = plan.colours[water] - plan.colours[next];
            int saltLeft = salt - n * plan.salts[next];
            int colourLeft = colour - n * plan.colours[next];
            int low = 0;
            int high = n;
            if (perSalt != 0) {
                low = saltLeft / perSalt;
                high = low;
            } else if (perColour != 0) {
                low = colourLeft / perColour;
                high = low;
            }
            if (low < 0 || high > n || low * perSalt != saltLeft || low * perColour != colourLeft) {
                return;
            }
            row[water] = low;
            row[next] = n - low;
            keepRows(high - low + 1);
            if (high > low) {
                always &= ~(1 << water | 1 << next);
            }
        }

        /** The row and those that differ from it in the last two WATERS alone. */
        private void keepRows(int number) {
            for (int water = 0; water < WATERS_MOST; water++) {
                if (found == 0) {
                    first[water] = row[water];
                }
                if (row[water] == 0) {
                    always &= ~(1 << water);
                }
            }
            found += number;
        }
    }

    /** Levels that were TOLD, and what would explain them. */
    private static final class Told {
        private final int[] weeks = new int[TOLD_MOST];
        private final int[] levels = new int[TOLD_MOST];
        /** By 100 times the HEIR and the week. */
        private final boolean[] explaining = new boolean[HEIRS_MOST * TOLD_WEEKS];
        private int searched = NONE;
        int size = 0;

        void clear() {
            size = 0;
            searched = NONE;
        }

        /** Its number; NONE: there is no room. */
        int add(int week, int level) {
            if (size >= TOLD_MOST) {
                return NONE;
            }
            weeks[size] = week;
            levels[size] = level;
            size++;
            return size - 1;
        }

        int firstForged(int k, Plan plan, Sea sea) {
            int last = lastWeek(k);
            int first = NOT;
            sea.begin(plan);
            for (int week = 0; week <= last; week++) {
                sea.passWeek(plan, NONE);
                int odd = firstOdd(k, week, sea.level);
                if (odd != NONE && (first == NOT || odd < first)) {
                    first = odd;
                }
            }
            return first;
        }

        /** Finds what explains the first k; these do not change until all is cleared. */
        void search(int k, Plan plan, Sea truth, Sea other) {
            if (searched == k) {
                return;
            }
            searched = k;
            for (int code = 0; code < explaining.length; code++) {
                explaining[code] = false;
            }
            int last = lastWeek(k);
            truth.begin(plan);
            boolean fits = true;
            for (int week = 0; fits && week <= last; week++) {
                for (int heir = 0; heir < plan.heirs; heir++) {
                    other.copyFrom(truth);
                    explaining[heir * TOLD_WEEKS + week] = fitsWithout(heir, k, plan, other);
                }
                truth.passWeek(plan, NONE);
                // Whoever is absent later cannot mend a level of this week.
                fits = firstOdd(k, week, truth.level) == NONE;
            }
        }

        /** With that HEIR absent in the week at which this sea is. */
        private boolean fitsWithout(int heir, int k, Plan plan, Sea sea) {
            int last = lastWeek(k);
            int absent = heir;
            for (int week = sea.week; week <= last; week++) {
                sea.passWeek(plan, absent);
                absent = NONE;
                if (firstOdd(k, week, sea.level) != NONE) {
                    return false;
                }
            }
            return true;
        }

        int foundInAll() {
            int sum = 0;
            for (int code = 0; code < explaining.length; code++) {
                sum += explaining[code] ? 1 : 0;
            }
            return sum;
        }

        int foundAt(int index) {
            int ahead = 0;
            for (int code = 0; code < explaining.length; code++) {
                if (explaining[code]) {
                    if (ahead == index) {
                        return code;
                    }
                    ahead++;
                }
            }
            return NONE;
        }

        /** The first of the first k that tells another level of that week. */
        private int firstOdd(int k, int week, int level) {
            for (int i = 0; i < k; i++) {
                if (weeks[i] == week && levels[i] != level) {
                    return i;
                }
            }
            return NONE;
        }

        private int lastWeek(int k) {
            int last = NONE;
            for (int i = 0; i < k; i++) {
                last = Math.max(last, weeks[i]);
            }
            return last;
        }
    }
}
