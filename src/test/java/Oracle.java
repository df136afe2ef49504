import java.math.BigInteger;
import java.util.ArrayDeque;
import java.util.ArrayList;
import java.util.Arrays;
import java.util.Deque;
import java.util.HashMap;
import java.util.HashSet;
import java.util.List;
import java.util.Map;
import java.util.Set;

/** The document a second time, told as slowly and as differently as can be, for RandomRunsTest to compare with. */
final class Oracle {
    static final int NONE = -1;

    /** A token: its kind (a word, a sign, "NAME", "INT", "BAD"), its letters, its place. */
    record Token(String kind, String letters, int place) {
        int number() {
            return Integer.parseInt(letters);
        }
    }

    record Water(int salt, int colour) { }

    record Heir(int share, int price, int fee, int most) { }

    record Sends(int heir, int water, List<Token> law) { }

    record Term(int part, int whole, int heir) { }

    /** The state that is held, undone and run. */
    static final class State {
        int[][] drops = new int[8][5];
        int[] islands = new int[8];
        int[] shares = new int[8];
        int[] sent = new int[8];
        long salt = 0;
        int week = 0;

        State copy() {
            State s = new State();
            for (int h = 0; h < 8; h++) {
                s.drops[h] = drops[h].clone();
            }
            s.islands = islands.clone();
            s.shares = shares.clone();
            s.sent = sent.clone();
            s.salt = salt;
            s.week = week;
            return s;
        }

        int of(int heir) {
            return Arrays.stream(drops[heir]).sum();
        }

        int all() {
            int sum = 0;
            for (int h = 0; h < 8; h++) {
                sum += of(h);
            }
            return sum;
        }
    }

    private final List<Water> waters = new ArrayList<>();
    private final List<Heir> heirs = new ArrayList<>();
    private final List<Sends> sends = new ArrayList<>();
    private final List<List<Term>> claims = new ArrayList<>();
    private List<Token> dry = null;
    private int basin = 999;
    private int seed = 0;
    private StringBuilder tape = new StringBuilder();
    private int place = NONE;
    private State now = new State();
    private final Deque<State> done = new ArrayDeque<>();
    private final State[] slots = new State[3];
    private final List<int[]> told = new ArrayList<>();

    // ---- the text -------------------------------------------------------------------------------

    private static final Map<String, List<List<String>>> GRAMMAR = new HashMap<>();

    private static void rule(String name, String... ways) {
        List<List<String>> list = new ArrayList<>();
        for (String way : ways) {
            list.add(way.isEmpty() ? List.of() : List.of(way.split(" ")));
        }
        GRAMMAR.put(name, list);
    }

    static {
        rule("Text", "", "Tell Text");
        rule("Tell", "water NAME INT INT ;", "heir NAME INT INT INT INT ;", "sends NAME NAME Law ;", "dry Law ;",
            "basin INT ;", "claim NAME = Term Terms ;", "seed INT ;");
        rule("Terms", "", "+ Term Terms");
        rule("Term", "INT of INT NAME");
        rule("Law", "= Ifs E");
        rule("Ifs", "", "if E < E then E else Ifs");
        rule("E", "Part Parts");
        rule("Parts", "", "+ Part Parts", "- Part Parts");
        rule("Part", "Unit Units");
        rule("Units", "", "* Unit Units", "/ Unit Units");
        rule("Unit", "INT", "Var", "( E )");
        rule("Var", "week", "level", "salt", "share", "sent", "lot");
    }

    /** All that may still come, as lists of symbols that share their ends. */
    record Rest(String symbol, Rest next) { }

    private static void shift(Rest rest, String kind, Set<Rest> into) {
        if (rest == null) {
            if (kind.equals("END")) {
                into.add(new Rest("accepted", null));
            }
            return;
        }
        List<List<String>> ways = GRAMMAR.get(rest.symbol());
        if (ways == null) {
            if (rest.symbol().equals(kind)) {
                into.add(rest.next());
            }
            return;
        }
        for (List<String> way : ways) {
            Rest longer = rest.next();
            for (int i = way.size() - 1; i >= 0; i--) {
                longer = new Rest(way.get(i), longer);
            }
            shift(longer, kind, into);
        }
    }

    private static final Set<String> WORDS = Set.of("water", "heir", "sends", "dry", "basin", "claim", "seed", "of",
        "if", "then", "else", "week", "level", "salt", "share", "sent", "lot");

    private static List<Token> tokens(String text) {
        List<Token> list = new ArrayList<>();
        java.util.regex.Matcher m = java.util.regex.Pattern.compile("[a-z]+|[0-9]+|[^\\t\\n\\r ]", java.util.regex.Pattern.DOTALL)
            .matcher(text);
        while (m.find()) {
            String part = m.group();
            String kind;
            if (part.matches("[a-z]+")) {
                kind = part.length() > 8 ? "BAD" : WORDS.contains(part) ? part : "NAME";
            } else if (part.matches("[0-9]+")) {
                kind = part.length() > 4 ? "BAD" : "INT";
            } else {
                kind = ";=+-*/<()".contains(part) ? part : "BAD";
            }
            list.add(new Token(kind, part, m.start()));
        }
        list.add(new Token("END", "", text.length()));
        return list;
    }

    private static int[] formFault(List<Token> tokens) {
        Set<Rest> rests = new HashSet<>();
        rests.add(new Rest("Text", null));
        Map<String, Integer> seen = new HashMap<>();
        Map<String, Integer> most = Map.of("water", 5, "heir", 8, "sends", 16, "claim", 6);
        String tell = "";
        int ifs = 0;
        int open = 0;
        int plus = 0;
        int index = 0;
        String last = "";
        for (Token token : tokens) {
            Set<Rest> next = new HashSet<>();
            for (Rest rest : rests) {
                shift(rest, token.kind(), next);
            }
            if (next.isEmpty()) {
                return new int[] {1, token.place()};
            }
            if (token.kind().equals("END")) {
                return null;
            }
            index++;
            boolean room = index <= 400;
            if (last.equals("") || last.equals(";")) {
                tell = token.kind();
                ifs = 0;
                plus = 0;
                int n = seen.merge(tell, 1, Integer::sum);
                room &= n <= most.getOrDefault(tell, 1000);
            }
            if (token.kind().equals("if")) {
                ifs++;
                room &= ifs <= 4;
            }
            if (token.kind().equals("(")) {
                open++;
                room &= open <= 6;
            }
            if (token.kind().equals(")")) {
                open--;
            }
            if (tell.equals("claim") && token.kind().equals("+")) {
                plus++;
            }
            if (tell.equals("claim") && last.equals("+") && plus >= 6) {
                room = false;
            }
            if (!room) {
                return new int[] {2, token.place()};
            }
            last = token.kind();
            rests = next;
        }
        return null;
    }

    private int[] fault = null;

    private void mark(int number, Token token) {
        if (fault == null || token.place() < fault[1] || token.place() == fault[1] && number < fault[0]) {
            fault = new int[] {number, token.place()};
        }
    }

    private int ranged(Token token, int least, int most) {
        if (token.number() < least || token.number() > most) {
            mark(5, token);
        }
        return token.number();
    }

    int read() {
        List<Token> tokens = tokens(tape.toString());
        tape = new StringBuilder();
        fault = formFault(tokens);
        Oracle next = new Oracle();
        if (fault == null) {
            next.fault = null;
            next.understand(tokens);
            fault = next.fault;
        }
        place = fault == null ? NONE : fault[1];
        if (fault != null) {
            return fault[0];
        }
        waters.clear();
        waters.addAll(next.waters);
        heirs.clear();
        heirs.addAll(next.heirs);
        sends.clear();
        sends.addAll(next.sends);
        claims.clear();
        claims.addAll(next.claims);
        dry = next.dry;
        basin = next.basin;
        seed = next.seed;
        now = begin();
        done.clear();
        told.clear();
        Arrays.fill(slots, null);
        return 0;
    }

    private void understand(List<Token> tokens) {
        Map<String, String> kinds = new HashMap<>();
        Map<String, Integer> numbers = new HashMap<>();
        int from = 0;
        for (int i = 0; i < tokens.size(); i++) {
            if (!tokens.get(i).kind().equals(";")) {
                continue;
            }
            List<Token> t = tokens.subList(from, i);
            from = i + 1;
            String tell = t.get(0).kind();
            switch (tell) {
                case "water" -> {
                    declare(t.get(1), "water", waters.size(), kinds, numbers);
                    waters.add(new Water(ranged(t.get(2), 0, 99), ranged(t.get(3), 0, 9)));
                }
                case "heir" -> {
                    declare(t.get(1), "heir", heirs.size(), kinds, numbers);
                    heirs.add(new Heir(ranged(t.get(2), 1, 99), ranged(t.get(3), 0, 99), ranged(t.get(4), 0, 999),
                        ranged(t.get(5), 0, 999)));
                }
                case "sends" -> sends.add(new Sends(named(t.get(1), "heir", kinds, numbers),
                    named(t.get(2), "water", kinds, numbers), new ArrayList<>(t.subList(4, t.size()))));
                case "dry" -> dry = new ArrayList<>(t.subList(2, t.size()));
                case "basin" -> basin = ranged(t.get(1), 1, 9999);
                case "seed" -> seed = ranged(t.get(1), 0, 9999);
                default -> {
                    declare(t.get(1), "claim", claims.size(), kinds, numbers);
                    List<Term> terms = new ArrayList<>();
                    for (int at = 3; at < t.size(); at += 5) {
                        terms.add(new Term(ranged(t.get(at), 1, 99), ranged(t.get(at + 2), 1, 99),
                            named(t.get(at + 3), "heir", kinds, numbers)));
                    }
                    claims.add(terms);
                }
            }
        }
    }

    private void declare(Token name, String kind, int number, Map<String, String> kinds, Map<String, Integer> numbers) {
        if (kinds.containsKey(name.letters())) {
            mark(3, name);
            return;
        }
        kinds.put(name.letters(), kind);
        numbers.put(name.letters(), number);
    }

    private int named(Token name, String kind, Map<String, String> kinds, Map<String, Integer> numbers) {
        if (!kind.equals(kinds.get(name.letters()))) {
            mark(4, name);
            return 0;
        }
        return numbers.get(name.letters());
    }

    boolean feed(String twenty) {
        if (tape.length() + 20 > 2000) {
            return false;
        }
        tape.append(twenty);
        return true;
    }

    int back(int n) {
        if (n < 0 || n > tape.length()) {
            return NONE;
        }
        tape.setLength(tape.length() - n);
        return tape.length();
    }

    int place() {
        return place;
    }

    // ---- laws -----------------------------------------------------------------------------------

    /** Works a LAW out straight from its tokens. */
    private static final class Evaluator {
        private final List<Token> law;
        private final Map<String, Integer> vars;
        private int at = 0;

        Evaluator(List<Token> law, Map<String, Integer> vars) {
            this.law = law;
            this.vars = vars;
        }

        private String kind() {
            return at < law.size() ? law.get(at).kind() : "END";
        }

        private void skipTo(String word) {
            while (!kind().equals(word)) {
                at++;
            }
            at++;
        }

        int law() {
            try {
                while (kind().equals("if")) {
                    at++;
                    int left = e();
                    at++;
                    int right = e();
                    at++;
                    if (left < right) {
                        return e();
                    }
                    skipTo("else");
                }
                return e();
            } catch (ArithmeticException byZero) {
                return 0;
            }
        }

        private int e() {
            int sum = part();
            while (kind().equals("+") || kind().equals("-")) {
                boolean plus = kind().equals("+");
                at++;
                int next = part();
                sum = plus ? sum + next : sum - next;
            }
            return sum;
        }

        private int part() {
            int product = unit();
            while (kind().equals("*") || kind().equals("/")) {
                boolean times = kind().equals("*");
                at++;
                int next = unit();
                product = times ? product * next : product / next;
            }
            return product;
        }

        private int unit() {
            Token token = law.get(at);
            at++;
            if (token.kind().equals("(")) {
                int inner = e();
                at++;
                return inner;
            }
            return token.kind().equals("INT") ? token.number() : vars.get(token.kind());
        }
    }

    private int lot(int which) {
        long h = seed;
        for (int it : new int[] {24, which}) {
            h = ((h ^ it) * 1103515245L + 12345) & 0xffffffffL;
            h = h ^ h >> 15;
        }
        return (int) ((h >> 1) % 1000);
    }

    private Map<String, Integer> vars(State s, int share, int sent, int which) {
        return Map.of("week", s.week, "level", s.all(), "salt", (int) s.salt, "share", share, "sent", sent,
            "lot", lot(20 * s.week + which));
    }

    private int told(State s, int index) {
        Sends one = sends.get(index);
        int value = new Evaluator(one.law(), vars(s, s.shares[one.heir()], s.sent[one.heir()], index)).law();
        return value < 0 ? 0 : value > 99 ? 99 : value;
    }

    private State begin() {
        State s = new State();
        for (int h = 0; h < heirs.size(); h++) {
            s.shares[h] = heirs.get(h).share();
        }
        return s;
    }

    private void week(State s, int absent) {
        for (int i = 0; i < sends.size(); i++) {
            Sends one = sends.get(i);
            int number = one.heir() == absent ? 0 : told(s, i);
            int all = s.all();
            for (int drop = 0; drop < number; drop++) {
                if (all >= basin) {
                    s.islands[one.heir()]++;
                } else {
                    all++;
                    s.drops[one.heir()][one.water()]++;
                    s.sent[one.heir()]++;
                    s.salt = Math.min(1000000000L, s.salt + waters.get(one.water()).salt());
                }
            }
        }
        if (dry != null) {
            int value = new Evaluator(dry, vars(s, Arrays.stream(s.shares).sum(), Arrays.stream(s.sent).sum(), 19)).law();
            takeAway(s, value < 0 ? 0 : Math.min(value, s.all()));
        }
        s.week++;
    }

    private void takeAway(State s, int number) {
        int all = s.all();
        if (all == 0) {
            return;
        }
        List<int[]> cells = new ArrayList<>();
        int lacking = number;
        for (int h = 0; h < 8; h++) {
            for (int w = 0; w < 5; w++) {
                int of = number * s.drops[h][w];
                cells.add(new int[] {of % all, h, w});
                s.drops[h][w] -= of / all;
                lacking -= of / all;
            }
        }
        cells.sort((a, b) -> Integer.compare(b[0], a[0]));
        for (int i = 0; i < lacking; i++) {
            s.drops[cells.get(i)[1]][cells.get(i)[2]]--;
        }
    }

    private State later(State from, int weeks, int absent) {
        State s = from.copy();
        for (int i = 0; i < weeks; i++) {
            week(s, absent);
        }
        return s;
    }

    // ---- what is ---------------------------------------------------------------------------------

    private boolean isHeir(int heir) {
        return 0 <= heir && heir < heirs.size();
    }

    private List<Integer> ranking(State s) {
        List<Integer> list = new ArrayList<>();
        for (int h = 0; h < heirs.size(); h++) {
            list.add(h);
        }
        list.sort((a, b) -> Integer.compare(s.of(b), s.of(a)));
        return list;
    }

    int heir(int heir, int what) {
        if (!isHeir(heir)) {
            return NONE;
        }
        return switch (what) {
            case 0 -> now.of(heir);
            case 1 -> now.islands[heir];
            case 2 -> now.shares[heir];
            case 3 -> now.sent[heir];
            case 4 -> now.all() * now.shares[heir] / Arrays.stream(now.shares).sum();
            case 5 -> ranking(now).indexOf(heir);
            default -> NONE;
        };
    }

    int drops(int heir, int water) {
        if (heir < -1 || heir >= heirs.size() || water < -1 || water >= waters.size()) {
            return NONE;
        }
        int sum = 0;
        for (int h = 0; h < 8; h++) {
            for (int w = 0; w < 5; w++) {
                sum += (heir == -1 || heir == h) && (water == -1 || water == w) ? now.drops[h][w] : 0;
            }
        }
        return sum;
    }

    int salt() {
        return (int) now.salt;
    }

    private static BigInteger[] lowest(BigInteger above, BigInteger below) {
        BigInteger common = above.gcd(below);
        return new BigInteger[] {above.divide(common), below.divide(common)};
    }

    int owns(int heir, boolean below) {
        if (!isHeir(heir)) {
            return NONE;
        }
        BigInteger[] f = now.all() == 0 ? new BigInteger[] {BigInteger.ZERO, BigInteger.ONE}
            : lowest(BigInteger.valueOf(now.of(heir)), BigInteger.valueOf(now.all()));
        return f[below ? 1 : 0].intValueExact();
    }

    long claim(int claim, boolean below) {
        if (claim < 0 || claim >= claims.size()) {
            return -1;
        }
        BigInteger under = BigInteger.ONE;
        for (Term term : claims.get(claim)) {
            under = under.multiply(BigInteger.valueOf(term.whole()));
        }
        BigInteger above = BigInteger.ZERO;
        for (Term term : claims.get(claim)) {
            above = above.add(under.divide(BigInteger.valueOf(term.whole()))
                .multiply(BigInteger.valueOf((long) term.part() * now.of(term.heir()))));
        }
        return lowest(above, under)[below ? 1 : 0].longValueExact();
    }

    int ranked(int rank) {
        List<Integer> list = ranking(now);
        return rank < 0 || rank >= list.size() ? NONE : list.get(rank);
    }

    // ---- what is done ----------------------------------------------------------------------------

    private void doing() {
        done.addLast(now.copy());
        if (done.size() > 30) {
            done.removeFirst();
        }
    }

    int run(int n) {
        if (n < 0 || n > 200) {
            return NONE;
        }
        if (n > 0) {
            doing();
            now = later(now, n, NONE);
        }
        return now.week;
    }

    int tells(int index) {
        return index < 0 || index >= sends.size() ? NONE : told(now, index);
    }

    int merge(int heir, int other) {
        if (!isHeir(heir) || !isHeir(other) || heir == other) {
            return NONE;
        }
        doing();
        int moved = now.of(heir);
        for (int w = 0; w < 5; w++) {
            now.drops[other][w] += now.drops[heir][w];
            now.drops[heir][w] = 0;
        }
        now.islands[other] += now.islands[heir];
        now.islands[heir] = 0;
        now.shares[other] += now.shares[heir];
        now.shares[heir] = 0;
        return moved;
    }

    int split(int heir, int other, int p, int q) {
        if (!isHeir(heir) || !isHeir(other) || heir == other || q < 1 || q > 99 || p < 0 || p > q) {
            return NONE;
        }
        doing();
        int before = now.of(heir);
        for (int w = 0; w < 5; w++) {
            int part = now.drops[heir][w] * p / q;
            now.drops[other][w] += part;
            now.drops[heir][w] -= part;
        }
        return before - now.of(heir);
    }

    int spoon(int n) {
        if (n < 1 || n > now.all()) {
            return NONE;
        }
        doing();
        long goes = now.salt * n / now.all();
        takeAway(now, n);
        now.salt -= goes;
        return (int) goes;
    }

    boolean undo() {
        if (done.isEmpty()) {
            return false;
        }
        now = done.removeLast();
        return true;
    }

    // ---- what would be ---------------------------------------------------------------------------

    int enough(int n) {
        if (n < 0) {
            return NONE;
        }
        List<State> list = futures();
        for (int weeks = 0; weeks <= 200; weeks++) {
            if (list.get(weeks).all() >= n) {
                return weeks;
            }
        }
        return -2;
    }

    private List<State> futures() {
        List<State> list = new ArrayList<>();
        list.add(now.copy());
        for (int i = 0; i < 200; i++) {
            list.add(later(list.get(i), 1, NONE));
        }
        return list;
    }

    private static long salinity(State s) {
        return s.all() == 0 ? 0 : s.salt * 1000 / s.all();
    }

    int salty(int t) {
        if (t < 0) {
            return NONE;
        }
        List<State> list = futures();
        for (int weeks = 0; weeks <= 200; weeks++) {
            if (salinity(list.get(weeks)) >= t) {
                return weeks;
            }
        }
        return -2;
    }

    int crossed(int p, int q, int what) {
        if (q < 1 || q > 99 || p < 1 || p > q || what < 0 || what > 1) {
            return NONE;
        }
        List<State> list = futures();
        for (int weeks = 0; weeks <= 200; weeks++) {
            State s = list.get(weeks);
            for (int heir : ranking(s)) {
                if (s.all() > 0 && (long) s.of(heir) * q >= (long) p * s.all()) {
                    return what == 0 ? weeks : heir;
                }
            }
        }
        return -2;
    }

    private boolean wins(int bits) {
        int sum = 0;
        for (int h = 0; h < heirs.size(); h++) {
            sum += (bits & 1 << h) != 0 ? now.of(h) : 0;
        }
        return sum > now.all() - sum;
    }

    int league() {
        for (int size = 0; size <= heirs.size(); size++) {
            for (int bits = 0; bits < 1 << heirs.size(); bits++) {
                if (Integer.bitCount(bits) == size && wins(bits)) {
                    return bits;
                }
            }
        }
        return -2;
    }

    int power(int heir) {
        if (!isHeir(heir)) {
            return NONE;
        }
        int sets = 0;
        for (int bits = 0; bits < 1 << heirs.size(); bits++) {
            if (wins(bits) && (bits & 1 << heir) != 0 && !wins(bits ^ 1 << heir)) {
                sets++;
            }
        }
        return sets;
    }

    int without(int heir, int n, int b) {
        if (!isHeir(heir) || n < 1 || n > 200 || b != -1 && !isHeir(b)) {
            return -1000000;
        }
        State with = later(now, n, NONE);
        State less = later(now, n, heir);
        return b == -1 ? with.all() - less.all() : less.of(b) - with.of(b);
    }

    /** The least sum at which just these give (each one at least) so many, by trying all gifts; -2: they can't. */
    private int leastOfJust(int n, int bits) {
        int[] least = new int[n + 1];
        Arrays.fill(least, Integer.MAX_VALUE);
        least[0] = 0;
        for (int h = 0; h < heirs.size(); h++) {
            if ((bits & 1 << h) == 0) {
                continue;
            }
            int[] next = new int[n + 1];
            Arrays.fill(next, Integer.MAX_VALUE);
            for (int had = 0; had <= n; had++) {
                for (int gift = 1; least[had] != Integer.MAX_VALUE && gift <= heirs.get(h).most() && had + gift <= n; gift++) {
                    int sum = least[had] + gift * heirs.get(h).price() + heirs.get(h).fee();
                    next[had + gift] = Math.min(next[had + gift], sum);
                }
            }
            least = next;
        }
        return least[n] == Integer.MAX_VALUE ? -2 : least[n];
    }

    /** The sum and the bits; null: not so many. */
    private int[] asking(int n) {
        int[] best = null;
        for (int bits = 0; bits < 1 << heirs.size(); bits++) {
            int sum = leastOfJust(n, bits);
            if (sum != -2 && (best == null || sum < best[0])) {
                best = new int[] {sum, bits};
            }
        }
        return best;
    }

    int asked(int n, int what) {
        if (n < 1 || n > 999 || what < 0 || what > 1) {
            return NONE;
        }
        int[] best = asking(n);
        return best == null ? -2 : best[what];
    }

    int gives(int n, int heir) {
        if (n < 1 || n > 999 || !isHeir(heir)) {
            return NONE;
        }
        int[] best = asking(n);
        if (best == null) {
            return -2;
        }
        int lacking = n;
        for (int price = 0; price <= 99; price++) {
            for (int h = 0; h < heirs.size(); h++) {
                if (heirs.get(h).price() == price && (best[1] & 1 << h) != 0) {
                    int gift = Math.min(lacking, heirs.get(h).most());
                    lacking -= gift;
                    if (h == heir) {
                        return gift;
                    }
                }
            }
        }
        return 0;
    }

    private List<int[]> rows(int n, int salt, int colour) {
        List<int[]> list = new ArrayList<>();
        rows(new int[waters.size()], 0, n, salt, colour, list);
        return list;
    }

    private void rows(int[] row, int at, int n, int salt, int colour, List<int[]> list) {
        if (at == row.length) {
            if (n == 0 && salt == 0 && colour == 0) {
                list.add(row.clone());
            }
            return;
        }
        for (int x = 0; x <= n; x++) {
            row[at] = x;
            rows(row, at + 1, n - x, salt - x * waters.get(at).salt(), colour - x * waters.get(at).colour(), list);
        }
    }

    long thimble(int n, int salt, int colour) {
        return n < 0 || n > 60 || salt < 0 || colour < 0 ? -1 : rows(n, salt, colour).size();
    }

    int surely(int n, int salt, int colour) {
        if (n < 0 || n > 60 || salt < 0 || colour < 0) {
            return NONE;
        }
        List<int[]> list = rows(n, salt, colour);
        int bits = 0;
        for (int w = 0; w < waters.size() && !list.isEmpty(); w++) {
            int water = w;
            bits |= list.stream().allMatch(row -> row[water] > 0) ? 1 << w : 0;
        }
        return bits;
    }

    int firstRow(int n, int salt, int colour, int water) {
        if (n < 0 || n > 60 || salt < 0 || colour < 0 || water < 0 || water >= waters.size()) {
            return NONE;
        }
        List<int[]> list = rows(n, salt, colour);
        return list.isEmpty() ? -2 : list.get(0)[water];
    }

    // ---- what was told ---------------------------------------------------------------------------

    int tell(int week, int level) {
        if (told.size() >= 20 || week < 0 || week > 99 || level < 0 || level > 9999) {
            return NONE;
        }
        told.add(new int[] {week, level});
        return told.size() - 1;
    }

    int forget() {
        int size = told.size();
        told.clear();
        return size;
    }

    private int[] levels(int weeks, int heir, int absentWeek) {
        int[] levels = new int[weeks];
        State s = begin();
        for (int w = 0; w < weeks; w++) {
            week(s, w == absentWeek ? heir : NONE);
            levels[w] = s.all();
        }
        return levels;
    }

    private int weeksKnown(int k) {
        int weeks = 0;
        for (int[] one : told.subList(0, k)) {
            weeks = Math.max(weeks, one[0] + 1);
        }
        return weeks;
    }

    private int firstWrong(int k, int[] levels) {
        for (int i = 0; i < k; i++) {
            if (levels[told.get(i)[0]] != told.get(i)[1]) {
                return i;
            }
        }
        return -2;
    }

    int forged(int k) {
        if (k < 0 || k > told.size()) {
            return NONE;
        }
        return firstWrong(k, levels(weeksKnown(k), NONE, NONE));
    }

    int explains(int k, int i) {
        if (k < 0 || k > told.size() || i < -1) {
            return NONE;
        }
        List<Integer> list = new ArrayList<>();
        for (int heir = 0; heir < heirs.size(); heir++) {
            for (int week = 0; week < weeksKnown(k); week++) {
                if (firstWrong(k, levels(weeksKnown(k), heir, week)) == -2) {
                    list.add(100 * heir + week);
                }
            }
        }
        return i == -1 ? list.size() : i < list.size() ? list.get(i) : NONE;
    }

    boolean hold(int slot) {
        if (slot < 0 || slot > 2) {
            return false;
        }
        slots[slot] = now.copy();
        return true;
    }

    boolean restore(int slot) {
        if (slot < 0 || slot > 2 || slots[slot] == null) {
            return false;
        }
        now = slots[slot].copy();
        done.clear();
        return true;
    }

    int count(int what) {
        return switch (what) {
            case 0 -> waters.size();
            case 1 -> heirs.size();
            case 2 -> sends.size();
            case 3 -> claims.size();
            case 4 -> now.week;
            case 5 -> now.all();
            case 6 -> basin;
            case 7 -> Arrays.stream(now.islands).sum();
            case 8 -> tape.length();
            case 9 -> done.size();
            case 10 -> told.size();
            case 11 -> (int) Arrays.stream(slots).filter(s -> s != null).count();
            case 12 -> (int) Math.min(1000000000L, salinity(now));
            default -> NONE;
        };
    }

    // ---- for the test: what to ask about ---------------------------------------------------------

    /** SALT and COLOUR of some drops. */
    int[] sumsOf(int n, java.util.Random random) {
        int[] sums = new int[2];
        for (int i = 0; i < n && !waters.isEmpty(); i++) {
            Water water = waters.get(random.nextInt(waters.size()));
            sums[0] += water.salt();
            sums[1] += water.colour();
        }
        return sums;
    }

    /** What was so, or would have been had somebody been absent, or neither. */
    int likelyLevel(int week, java.util.Random random) {
        if (week < 0 || week > 99) {
            return 5;
        }
        int kind = random.nextInt(6);
        int heir = kind == 0 && !heirs.isEmpty() ? random.nextInt(heirs.size()) : NONE;
        return levels(week + 1, heir, random.nextInt(week + 1))[week] + (kind == 1 ? 1 : 0);
    }
}
