import java.math.BigInteger;
import java.util.ArrayDeque;
import java.util.ArrayList;
import java.util.Arrays;
import java.util.HashMap;
import java.util.HashSet;
import java.util.List;
import java.util.Map;
import java.util.NoSuchElementException;
import java.util.Set;
import java.util.TreeSet;
import java.util.function.ToIntFunction;
import java.util.regex.Matcher;
import java.util.regex.Pattern;

/**
 * The document once more, told as plainly and slowly as it can be, with other means than the class
 * under test: trees in place of steps, snapshots in place of undone acts, searches in place of tables.
 */
final class SlowMuseum {
    static final int NONE = -1;

    /** A word that would come: what the values of a rule are taken from. */
    record Coming(int word, int day, List<Integer> there, Told told) {
    }

    interface Expr extends ToIntFunction<Coming> {
    }

    static final class Told {
        final List<Boolean> ends = new ArrayList<>();
        final List<String> words = new ArrayList<>();
        final List<Integer> kinds = new ArrayList<>();
        final Map<List<Integer>, Integer> arcs = new HashMap<>();
        final Map<Integer, Integer> costs = new HashMap<>();
        final List<Expr> habits = new ArrayList<>();
        Expr law;

        Integer next(Integer state, int word) {
            return state == null ? null : arcs.get(List.of(state, kinds.get(word)));
        }

        boolean someFollows(int state) {
            for (int w = 0; w < words.size(); w++) {
                if (next(state, w) != null) {
                    return true;
                }
            }
            return false;
        }

        int price(int word) {
            return costs.getOrDefault(kinds.get(word), 1);
        }
    }

    static final class Shown {
        final List<Integer> begins = new ArrayList<>();
        final List<List<Integer>> sayings = new ArrayList<>();
        int day;

        Shown copy() {
            Shown s = new Shown();
            s.begins.addAll(begins);
            for (List<Integer> saying : sayings) {
                s.sayings.add(new ArrayList<>(saying));
            }
            s.day = day;
            return s;
        }
    }

    static final class Fault extends RuntimeException {
        final int number;
        final int place;

        Fault(int number, int place) {
            this.number = number;
            this.place = place;
        }
    }

    private StringBuilder tape = new StringBuilder();
    private Told told = new Told();
    private Shown shown = new Shown();
    private List<Shown> before = new ArrayList<>();
    private List<int[]> seen = new ArrayList<>();
    private Shown imageShown;
    private List<Shown> imageBefore;
    private List<int[]> imageSeen;
    private int place = NONE;
    private final int[] status = new int[3];

    // ---- reading

    private record Token(String text, int at) {
        boolean isWord() {
            return text.matches("[a-z]+");
        }

        boolean isNumber() {
            return text.matches("[0-9]+");
        }
    }

    private static final class Reading {
        final List<Token> tokens = new ArrayList<>();
        final Told told = new Told();
        final Shown shown = new Shown();
        int at;

        Reading(String text) {
            Matcher m = Pattern.compile("[a-z]+|[0-9]+|[^ \\n]", Pattern.DOTALL).matcher(text);
            while (m.find()) {
                tokens.add(new Token(m.group(), m.start()));
            }
            tokens.add(new Token("", text.length()));
        }

        Token now() {
            return tokens.get(at);
        }

        RuntimeException fault(int number) {
            return new Fault(number, now().at);
        }

        boolean isNow(String text) {
            return now().text.equals(text);
        }

        boolean pass(String text) {
            if (isNow(text)) {
                at++;
                return true;
            }
            return false;
        }

        void need(String text) {
            if (!pass(text)) {
                throw fault(1);
            }
        }

        int number() {
            if (!now().isNumber()) {
                throw fault(1);
            }
            if (now().text.length() > 4) {
                throw fault(2);
            }
            return Integer.parseInt(now().text);
        }

        int numberTo(int most) {
            int n = number();
            if (n > most) {
                throw fault(2);
            }
            return n;
        }

        int toldNumber(int howMany) {
            int n = number();
            if (n >= howMany) {
                throw fault(3);
            }
            return n;
        }

        void all() {
            while (!isNow("")) {
                line();
                need(";");
            }
        }

        void line() {
            switch (now().text) {
                case "state" -> {
                    tooMany(told.ends, 10);
                    at++;
                    told.ends.add(pass("end"));
                }
                case "word" -> {
                    tooMany(told.words, 14);
                    at++;
                    if (!now().isWord()) {
                        throw fault(1);
                    }
                    String row = now().text;
                    if (row.length() > 9) {
                        throw fault(2);
                    }
                    if (told.words.contains(row)) {
                        throw fault(4);
                    }
                    at++;
                    told.kinds.add(numberTo(7));
                    told.words.add(row);
                    at++;
                }
                case "arc" -> {
                    if (told.arcs.size() == 24) {
                        throw fault(2);
                    }
                    at++;
                    int from = toldNumber(told.ends.size());
                    at++;
                    int kind = numberTo(7);
                    if (told.arcs.containsKey(List.of(from, kind))) {
                        throw fault(4);
                    }
                    at++;
                    told.arcs.put(List.of(from, kind), toldNumber(told.ends.size()));
                    at++;
                }
                case "cost" -> {
                    at++;
                    int kind = numberTo(7);
                    if (told.costs.containsKey(kind)) {
                        throw fault(4);
                    }
                    at++;
                    told.costs.put(kind, numberTo(9));
                    at++;
                }
                case "saying" -> saying();
                case "habit" -> {
                    tooMany(told.habits, 4);
                    at++;
                    told.habits.add(or(0));
                }
                case "law" -> {
                    if (told.law != null) {
                        throw fault(5);
                    }
                    at++;
                    told.law = or(0);
                }
                default -> throw fault(1);
            }
        }

        void tooMany(List<?> list, int most) {
            if (list.size() == most) {
                throw fault(2);
            }
        }

        void saying() {
            tooMany(shown.sayings, 5);
            at++;
            Integer state = toldNumber(told.ends.size());
            shown.begins.add(state);
            at++;
            List<Integer> row = new ArrayList<>();
            while (!isNow(";")) {
                if (now().isNumber() && row.size() == 40) {
                    throw fault(2);
                }
                int word = toldNumber(told.words.size());
                state = told.next(state, word);
                if (state == null) {
                    throw fault(6);
                }
                row.add(word);
                at++;
            }
            shown.sayings.add(row);
        }

        static int bit(boolean b) {
            return b ? 1 : 0;
        }

        Expr or(int others) {
            if (others == 6 && (now().isNumber() || now().isWord() || isNow("("))) {
                throw fault(2);
            }
            Expr left = and(others);
            while (pass("or")) {
                Expr l = left;
                Expr r = and(others);
                left = c -> bit(l.applyAsInt(c) != 0 | r.applyAsInt(c) != 0);
            }
            return left;
        }

        Expr and(int others) {
            Expr left = not(others, 1);
            while (pass("and")) {
                Expr l = left;
                Expr r = not(others, 1);
                left = c -> bit(l.applyAsInt(c) != 0 & r.applyAsInt(c) != 0);
            }
            return left;
        }

        Expr not(int others, int which) {
            if (isNow("not")) {
                if (which == 7) {
                    throw fault(2);
                }
                at++;
                Expr inner = not(others, which + 1);
                return c -> bit(inner.applyAsInt(c) == 0);
            }
            Expr l = sum(others);
            if (pass("<")) {
                Expr r = sum(others);
                return c -> bit(l.applyAsInt(c) < r.applyAsInt(c));
            }
            if (pass("=")) {
                Expr r = sum(others);
                return c -> bit(l.applyAsInt(c) == r.applyAsInt(c));
            }
            return l;
        }

        Expr sum(int others) {
            Expr left = product(others);
            while (isNow("+") || isNow("-")) {
                boolean plus = isNow("+");
                at++;
                Expr l = left;
                Expr r = product(others);
                left = c -> plus ? l.applyAsInt(c) + r.applyAsInt(c) : l.applyAsInt(c) - r.applyAsInt(c);
            }
            return left;
        }

        Expr product(int others) {
            Expr left = part(others);
            while (isNow("*") || isNow("/")) {
                boolean times = isNow("*");
                at++;
                Expr l = left;
                Expr r = part(others);
                left = c -> {
                    int x = l.applyAsInt(c);
                    int y = r.applyAsInt(c);
                    return times ? x * y : y == 0 ? 0 : x / y;
                };
            }
            return left;
        }

        Expr part(int others) {
            if (pass("(")) {
                Expr inner = or(others + 1);
                need(")");
                return inner;
            }
            if (now().isWord()) {
                Expr value = value(now().text);
                if (value == null) {
                    throw fault(3);
                }
                at++;
                return value;
            }
            int n = number();
            at++;
            return c -> n;
        }

        static Expr value(String name) {
            return switch (name) {
                case "kind" -> c -> c.told.kinds.get(c.word);
                case "letters" -> c -> c.told.words.get(c.word).length();
                case "word" -> c -> c.word;
                case "day" -> c -> c.day;
                case "long" -> c -> c.there.size();
                case "same" -> c -> (int) c.there.stream().filter(w -> w == c.word).count();
                case "rhymes" -> c -> {
                    if (c.there.isEmpty()) {
                        return 0;
                    }
                    String last = c.told.words.get(c.there.get(c.there.size() - 1));
                    String mine = c.told.words.get(c.word);
                    return bit(last.charAt(last.length() - 1) == mine.charAt(mine.length() - 1));
                };
                default -> null;
            };
        }
    }

    // ---- the face

    int feed(int a, int b, int c, int d, int e) {
        if (tape.length() + 20 > 700) {
            return NONE;
        }
        for (int x : new int[] {a, b, c, d, e}) {
            for (byte y : BigInteger.valueOf(x & 0xffffffffL | 1L << 40).toByteArray()) {
                tape.append((char) (y & 255));
            }
            tape.delete(tape.length() - 6, tape.length() - 4);
        }
        return tape.length();
    }

    int museum(int n) {
        if (n < 0 || n > tape.length()) {
            throw new IllegalArgumentException();
        }
        Reading reading = new Reading(tape.substring(0, n));
        tape = new StringBuilder();
        try {
            reading.all();
        } catch (Fault f) {
            place = f.place;
            status[0]++;
            return f.number;
        }
        place = NONE;
        told = reading.told;
        shown = reading.shown;
        before = new ArrayList<>();
        seen = new ArrayList<>();
        imageShown = null;
        return 0;
    }

    int fault() {
        return place;
    }

    int count(int what) {
        return switch (what) {
            case 0 -> told.ends.size();
            case 1 -> told.words.size();
            case 2 -> told.arcs.size();
            case 3 -> shown.sayings.size();
            case 4 -> told.habits.size();
            case 5 -> shown.day;
            case 6 -> before.size();
            case 7 -> seen.size();
            case 8 -> tape.length();
            case 9, 10, 11 -> status[what - 9];
            case 12 -> {
                int n = 0;
                for (int s = 0; s < shown.sayings.size(); s++) {
                    n += state(shown, s) == null ? 1 : 0;
                }
                yield n;
            }
            case 13 -> {
                int bits = 0;
                for (int s = 0; s < told.ends.size(); s++) {
                    bits += told.ends.get(s) ? 1 << s : 0;
                }
                yield bits;
            }
            case 14 -> shown.sayings.stream().mapToInt(List::size).max().orElse(0);
            default -> throw new NoSuchElementException();
        };
    }

    private void has(boolean isThere) {
        if (!isThere) {
            throw new NoSuchElementException();
        }
    }

    private void hasState(int s) {
        has(s >= 0 && s < told.ends.size());
    }

    private void hasWord(int w) {
        has(w >= 0 && w < told.words.size());
    }

    private void hasSaying(int s) {
        has(s >= 0 && s < shown.sayings.size());
    }

    private void hasTwo(int what) {
        has(what == 0 || what == 1);
    }

    private Integer run(Integer from, List<Integer> row) {
        Integer state = from;
        for (int w : row) {
            state = told.next(state, w);
        }
        return state;
    }

    private Integer state(Shown in, int saying) {
        return run(in.begins.get(saying), in.sayings.get(saying));
    }

    int letter(int word, int i) {
        hasWord(word);
        String row = told.words.get(word);
        if (i == NONE) {
            return row.length();
        }
        has(i >= 0 && i < row.length());
        return "abcdefghijklmnopqrstuvwxyz".indexOf(row.charAt(i)) + 1;
    }

    int kind(int word) {
        hasWord(word);
        return told.kinds.get(word);
    }

    int arc(int state, int kind) {
        hasState(state);
        has(kind >= 0 && kind <= 7);
        return told.arcs.getOrDefault(List.of(state, kind), NONE);
    }

    int saying(int saying, int i) {
        hasSaying(saying);
        List<Integer> row = shown.sayings.get(saying);
        if (i == -1) {
            return row.size();
        }
        if (i == -2) {
            Integer s = state(shown, saying);
            return s == null ? NONE : s;
        }
        if (i == -3) {
            return shown.begins.get(saying);
        }
        has(i >= 0 && i < row.size());
        return row.get(i);
    }

    private boolean mayCome(Shown in, int saying, int word, int day) {
        Integer to = told.next(state(in, saying), word);
        List<Integer> there = in.sayings.get(saying);
        return to != null && told.someFollows(to) && there.size() < 40
                && (told.law == null || told.law.applyAsInt(new Coming(word, day, there, told)) != 0);
    }

    int may(int saying) {
        hasSaying(saying);
        int bits = 0;
        for (int w = 0; w < told.words.size(); w++) {
            bits += mayCome(shown, saying, w, shown.day) ? 1 << w : 0;
        }
        return bits;
    }

    private void act() {
        before.add(shown.copy());
        if (before.size() > 40) {
            before.remove(0);
        }
    }

    int add(int saying, int word) {
        hasSaying(saying);
        hasWord(word);
        if (!mayCome(shown, saying, word, shown.day)) {
            status[1]++;
            return NONE;
        }
        act();
        shown.sayings.get(saying).add(word);
        return shown.sayings.get(saying).size();
    }

    int fly(int saying, int i, int word) {
        hasSaying(saying);
        hasWord(word);
        List<Integer> row = shown.sayings.get(saying);
        if (row.size() == 40 || i < 0 || i > row.size()) {
            status[1]++;
            return NONE;
        }
        act();
        row.add(i, word);
        return row.size();
    }

    int take(int saying, int i) {
        hasSaying(saying);
        List<Integer> row = shown.sayings.get(saying);
        if (i < 0 || i >= row.size()) {
            status[1]++;
            return NONE;
        }
        act();
        return row.remove(i);
    }

    int day() {
        act();
        shown.day = shown.day == 6 ? 0 : shown.day + 1;
        return shown.day;
    }

    int undo() {
        if (before.isEmpty()) {
            return NONE;
        }
        shown = before.remove(before.size() - 1);
        return before.size();
    }

    int open(int state) {
        hasState(state);
        Set<Integer> ends = new HashSet<>(Set.of(state));
        for (int n = 0; n < 50; n++) {
            ends = oneOn(ends);
            if (ends.isEmpty()) {
                return n;
            }
        }
        return NONE;
    }

    private Set<Integer> oneOn(Set<Integer> from) {
        Set<Integer> on = new TreeSet<>();
        for (int s : from) {
            for (int w = 0; w < told.words.size(); w++) {
                if (told.next(s, w) != null) {
                    on.add(told.next(s, w));
                }
            }
        }
        return on;
    }

    private List<Integer> soonestRow(int state) {
        ArrayDeque<List<Integer>> rows = new ArrayDeque<>(List.of(List.of()));
        Set<Integer> been = new HashSet<>();
        while (!rows.isEmpty()) {
            List<Integer> row = rows.poll();
            int s = run(state, row);
            if (told.ends.get(s)) {
                return row;
            }
            if (been.add(s)) {
                for (int w = 0; w < told.words.size(); w++) {
                    if (told.next(s, w) != null) {
                        List<Integer> longer = new ArrayList<>(row);
                        longer.add(w);
                        rows.add(longer);
                    }
                }
            }
        }
        return null;
    }

    int soonest(int state, int i) {
        hasState(state);
        has(i >= NONE);
        List<Integer> row = soonestRow(state);
        if (row == null) {
            return NONE;
        }
        return i == NONE ? row.size() : i < row.size() ? row.get(i) : NONE;
    }

    int must(int state) {
        hasState(state);
        Set<Integer> never = new HashSet<>(Set.of(state));
        for (int n = 0; n <= 40; n++) {
            never.removeIf(told.ends::get);
            if (never.isEmpty()) {
                return n;
            }
            never = oneOn(never);
        }
        return NONE;
    }

    long ways(int state, int n, boolean end) {
        hasState(state);
        if (n < 0 || n > 12) {
            throw new IllegalArgumentException();
        }
        return ways(state, n, end, new HashMap<>());
    }

    private long ways(int state, int n, boolean end, Map<List<Integer>, Long> known) {
        if (n == 0) {
            return !end || told.ends.get(state) ? 1 : 0;
        }
        Long k = known.get(List.of(state, n));
        if (k != null) {
            return k;
        }
        long sum = 0;
        for (int w = 0; w < told.words.size(); w++) {
            Integer to = told.next(state, w);
            sum += to == null ? 0 : ways(to, n - 1, end, known);
        }
        known.put(List.of(state, n), sum);
        return sum;
    }

    /** 1 wins, 2 loses, 0 neither, as far as so many words ahead show. */
    private int outcome(int state, int ahead, Map<List<Integer>, Integer> known) {
        if (ahead == 0) {
            return told.someFollows(state) ? 0 : 2;
        }
        Integer k = known.get(List.of(state, ahead));
        if (k != null) {
            return k;
        }
        int best = 2;
        for (int w = 0; w < told.words.size(); w++) {
            Integer to = told.next(state, w);
            if (to != null) {
                int his = outcome(to, ahead - 1, known);
                if (his == 2) {
                    best = 1;
                } else if (his == 0 && best == 2) {
                    best = 0;
                }
            }
        }
        known.put(List.of(state, ahead), best);
        return best;
    }

    int turn(int state, int what) {
        hasState(state);
        hasTwo(what);
        Map<List<Integer>, Integer> known = new HashMap<>();
        if (what == 0) {
            return outcome(state, 30, known);
        }
        for (int w = 0; w < told.words.size(); w++) {
            Integer to = told.next(state, w);
            if (to != null && outcome(to, 30, known) == 2) {
                return w;
            }
        }
        return NONE;
    }

    private List<Integer> costRow(int state, int much, int most, Map<List<Integer>, List<Integer>> known) {
        List<Integer> key = List.of(state, much, most);
        if (known.containsKey(key)) {
            return known.get(key);
        }
        List<Integer> best = List.of();
        for (int w = 0; w < told.words.size() && most > 0; w++) {
            Integer to = told.next(state, w);
            if (to != null && told.price(w) <= much) {
                List<Integer> rest = costRow(to, much - told.price(w), most - 1, known);
                if (rest.size() + 1 > best.size()) {
                    best = new ArrayList<>(List.of(w));
                    best.addAll(rest);
                }
            }
        }
        known.put(key, best);
        return best;
    }

    int costs(int state, int much, int i) {
        hasState(state);
        has(i >= NONE);
        if (much < 0 || much > 60) {
            throw new IllegalArgumentException();
        }
        List<Integer> row = costRow(state, much, 40, new HashMap<>());
        return i == NONE ? row.size() : i < row.size() ? row.get(i) : NONE;
    }

    private boolean circles(int state, int without, List<Integer> path) {
        if (path.contains(state)) {
            return true;
        }
        path.add(state);
        for (int w = 0; w < told.words.size(); w++) {
            Integer to = told.next(state, w);
            if (to != null && (without >> told.kinds.get(w) & 1) == 0 && circles(to, without, path)) {
                return true;
            }
        }
        path.remove(path.size() - 1);
        return false;
    }

    int closed() {
        int best = 255;
        for (int kinds = 255; kinds >= 0; kinds--) {
            boolean shut = true;
            for (int s = 0; s < shown.sayings.size(); s++) {
                Integer state = state(shown, s);
                shut &= state == null || !circles(state, kinds, new ArrayList<>());
            }
            if (shut && Integer.bitCount(kinds) <= Integer.bitCount(best)) {
                best = kinds;
            }
        }
        return best;
    }

    private int[] weights(Shown in, int visitor, int saying) {
        int[] weights = new int[told.words.size()];
        for (int w = 0; w < weights.length; w++) {
            if (mayCome(in, saying, w, in.day)) {
                int v = told.habits.get(visitor).applyAsInt(
                        new Coming(w, in.day, in.sayings.get(saying), told));
                weights[w] = v < 0 ? 0 : v > 99 ? 99 : v;
            }
        }
        return weights;
    }

    private BigInteger[] odds(int visitor, int saying, int word) {
        int[] weights = weights(shown, visitor, saying);
        int sum = Arrays.stream(weights).sum();
        if (sum == 0) {
            return new BigInteger[] {BigInteger.ZERO, BigInteger.ONE};
        }
        BigInteger up = BigInteger.valueOf(weights[word]);
        BigInteger low = BigInteger.valueOf(sum);
        BigInteger g = up.gcd(low);
        return new BigInteger[] {up.divide(g), low.divide(g)};
    }

    int odds(int visitor, int saying, int word, int what) {
        has(visitor >= 0 && visitor < told.habits.size());
        hasSaying(saying);
        hasWord(word);
        hasTwo(what);
        return odds(visitor, saying, word)[what].intValueExact();
    }

    int see(int saying, int word) {
        hasSaying(saying);
        hasWord(word);
        if (seen.size() == 3) {
            status[2]++;
            return NONE;
        }
        seen.add(new int[] {saying, word});
        return seen.size();
    }

    void forget() {
        seen = new ArrayList<>();
    }

    int who(int what) {
        hasTwo(what);
        int bits = 0;
        int likeliest = NONE;
        BigInteger[] best = {BigInteger.ZERO, BigInteger.ONE};
        for (int v = 0; v < told.habits.size(); v++) {
            BigInteger[] all = {BigInteger.ONE, BigInteger.ONE};
            for (int[] s : seen) {
                BigInteger[] one = odds(v, s[0], s[1]);
                all[0] = all[0].multiply(one[0]);
                all[1] = all[1].multiply(one[1]);
            }
            bits += all[0].signum() > 0 ? 1 << v : 0;
            if (all[0].multiply(best[1]).compareTo(best[0].multiply(all[1])) > 0) {
                best = all;
                likeliest = v;
            }
        }
        return what == 0 ? bits : likeliest;
    }

    int begun(int saying) {
        hasSaying(saying);
        int bits = 0;
        for (int s = 0; s < told.ends.size(); s++) {
            bits += run(s, shown.sayings.get(saying)) != null ? 1 << s : 0;
        }
        return bits;
    }

    private static int changes(List<Integer> a, List<Integer> b, int[][] known) {
        if (a.isEmpty() || b.isEmpty()) {
            return a.size() + b.size();
        }
        if (known[a.size()][b.size()] > 0) {
            return known[a.size()][b.size()] - 1;
        }
        List<Integer> a1 = a.subList(1, a.size());
        List<Integer> b1 = b.subList(1, b.size());
        int best = changes(a1, b1, known) + (a.get(0).equals(b.get(0)) ? 0 : 1);
        best = Math.min(best, changes(a1, b, known) + 1);
        best = Math.min(best, changes(a, b1, known) + 1);
        known[a.size()][b.size()] = best + 1;
        return best;
    }

    int alike(int one, int other) {
        hasSaying(one);
        hasSaying(other);
        return changes(shown.sayings.get(one), shown.sayings.get(other), new int[41][41]);
    }

    int nearest() {
        int best = NONE;
        for (int a = 0; a < shown.sayings.size(); a++) {
            for (int b = a + 1; b < shown.sayings.size(); b++) {
                if (best == NONE || alike(a, b) < alike(best / 10, best % 10)) {
                    best = 10 * a + b;
                }
            }
        }
        return best;
    }

    int culprit(int saying, int what) {
        hasSaying(saying);
        hasTwo(what);
        List<Integer> flies = new ArrayList<>();
        for (int i = 0; i < shown.sayings.get(saying).size() && state(shown, saying) == null; i++) {
            List<Integer> row = new ArrayList<>(shown.sayings.get(saying));
            row.remove(i);
            if (run(shown.begins.get(saying), row) != null) {
                flies.add(i);
            }
        }
        return what == 0 ? flies.size() : flies.isEmpty() ? NONE : flies.get(0);
    }

    int season(int seed, int n, int saying) {
        if (saying != NONE) {
            hasSaying(saying);
        }
        if (n < 0 || n > 60) {
            throw new IllegalArgumentException();
        }
        Shown play = shown.copy();
        int added = 0;
        int[] s = {seed};
        for (int t = 0; t < n && !play.sayings.isEmpty() && !told.habits.isEmpty(); t++) {
            int which = draw(s, play.sayings.size());
            int visitor = draw(s, told.habits.size());
            List<Integer> urn = new ArrayList<>();
            int[] weights = weights(play, visitor, which);
            for (int w = 0; w < weights.length; w++) {
                for (int k = 0; k < weights[w]; k++) {
                    urn.add(w);
                }
            }
            if (!urn.isEmpty()) {
                play.sayings.get(which).add(urn.get(draw(s, urn.size())));
                added++;
            }
            play.day = (play.day + 1) % 7;
        }
        return saying == NONE ? added : play.sayings.get(saying).size();
    }

    private static int draw(int[] seed, int n) {
        seed[0] = BigInteger.valueOf(seed[0]).multiply(BigInteger.valueOf(1103515245L))
                .add(BigInteger.valueOf(12345)).intValue();
        int bits = 0;
        for (int b = 16; b <= 30; b++) {
            bits += (seed[0] >> b & 1) << b - 16;
        }
        return bits % n;
    }

    int crimes(int state) {
        hasState(state);
        int bits = 0;
        for (int w = 0; w < told.words.size(); w++) {
            Integer to = told.next(state, w);
            bits += to != null && !told.someFollows(to) ? 1 << w : 0;
        }
        return bits;
    }

    int doors(int state) {
        hasState(state);
        int bits = 0;
        Set<Integer> at = Set.of(state);
        for (int n = 0; n < 20; n++) {
            at = oneOn(at);
            for (int s : at) {
                bits |= 1 << s;
            }
        }
        return bits;
    }

    int far(int from, int to) {
        hasState(from);
        hasState(to);
        Set<Integer> at = Set.of(from);
        for (int n = 0; n < 20; n++) {
            if (at.contains(to)) {
                return n;
            }
            at = oneOn(at);
        }
        return NONE;
    }

    int days(int saying, int word) {
        hasSaying(saying);
        hasWord(word);
        int bits = 0;
        for (int d = 0; d < 7; d++) {
            bits += mayCome(shown, saying, word, d) ? 1 << d : 0;
        }
        return bits;
    }

    /** The best row behind a state for the rest of a saying, its first entry how many are changed. */
    private List<Integer> mended(Integer state, List<Integer> rest, Map<List<Integer>, List<Integer>> known) {
        if (rest.isEmpty()) {
            return List.of(0);
        }
        List<Integer> key = List.of(state, rest.size());
        if (known.containsKey(key)) {
            return known.get(key);
        }
        List<Integer> best = null;
        for (int w = 0; w < told.words.size(); w++) {
            Integer to = told.next(state, w);
            List<Integer> behind = to == null ? null : mended(to, rest.subList(1, rest.size()), known);
            if (behind != null) {
                int changed = behind.get(0) + (rest.get(0) == w ? 0 : 1);
                if (best == null || changed < best.get(0)) {
                    best = new ArrayList<>(List.of(changed, w));
                    best.addAll(behind.subList(1, behind.size()));
                }
            }
        }
        known.put(key, best);
        return best;
    }

    int mend(int saying, int i) {
        hasSaying(saying);
        List<Integer> row = mended(shown.begins.get(saying), shown.sayings.get(saying), new HashMap<>());
        if (i == NONE) {
            return row == null ? NONE : row.get(0);
        }
        has(i >= 0 && i < shown.sayings.get(saying).size() && row != null);
        return row.get(i + 1);
    }

    int shared(int one, int other, int what) {
        hasSaying(one);
        hasSaying(other);
        hasTwo(what);
        List<Integer> a = shown.sayings.get(one);
        List<Integer> b = shown.sayings.get(other);
        for (int n = Math.min(a.size(), b.size()); n > 0; n--) {
            for (int i = 0; i + n <= a.size(); i++) {
                for (int j = 0; j + n <= b.size(); j++) {
                    if (a.subList(i, i + n).equals(b.subList(j, j + n))) {
                        return what == 0 ? n : i;
                    }
                }
            }
        }
        return what == 0 ? 0 : NONE;
    }

    int about(int word) {
        hasWord(word);
        int bits = 0;
        for (int s = 0; s < shown.sayings.size(); s++) {
            bits += shown.sayings.get(s).contains(word) ? 1 << s : 0;
        }
        return bits;
    }

    int often(int saying, int kind) {
        hasSaying(saying);
        has(kind >= 0 && kind <= 7);
        return (int) shown.sayings.get(saying).stream().filter(w -> told.kinds.get(w) == kind).count();
    }

    int cost(int saying) {
        hasSaying(saying);
        return shown.sayings.get(saying).stream().mapToInt(told::price).sum();
    }

    void image() {
        imageShown = shown.copy();
        imageBefore = copies(before);
        imageSeen = new ArrayList<>(seen);
    }

    boolean restore() {
        if (imageShown == null) {
            return false;
        }
        shown = imageShown.copy();
        before = copies(imageBefore);
        seen = new ArrayList<>(imageSeen);
        return true;
    }

    private static List<Shown> copies(List<Shown> all) {
        List<Shown> copies = new ArrayList<>();
        for (Shown s : all) {
            copies.add(s.copy());
        }
        return copies;
    }
}
