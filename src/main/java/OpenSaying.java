import java.util.Arrays;
import java.util.NoSuchElementException;

/** A museum of sayings that somebody began and nobody ends: see README.md. */
public final class OpenSaying {
    public static final int NONE = -1;

    private static final int MOST_BYTES = 700;
    private static final int BYTES_A_FEED = 20;
    private static final int MOST_STATES = 10;
    private static final int MOST_WORDS = 14;
    private static final int MOST_LETTERS = 9;
    private static final int MOST_ARCS = 24;
    private static final int MOST_VISITORS = 4;
    private static final int MOST_SAYINGS = 5;
    private static final int MOST_IN_SAYING = 40;
    private static final int MOST_ACTS = 40;
    private static final int MOST_SEEN = 3;
    private static final int MOST_WEIGHT = 99;
    private static final int MOST_WAYS = 12;
    private static final int MOST_TO_SPEND = 60;
    private static final int MOST_TIMES = 60;
    private static final int MOST_COST = 9;
    private static final int KINDS = 8;
    private static final int WEEK = 7;

    private static final int REFUSED_TEXTS = 0;
    private static final int REFUSED_ACTS = 1;
    private static final int REFUSED_SEEN = 2;

    private final int[] tape = new int[MOST_BYTES];
    private final int[] refused = new int[3];
    private final Museum museum = new Museum();
    private final Gallery gallery = new Gallery();
    private final Gallery image = new Gallery();
    // A text is read into these two, so that a fault leaves the real ones as they are.
    private final Museum draft = new Museum();
    private final Gallery sketch = new Gallery();
    private final Reader reader = new Reader(tape, draft, sketch);
    private final Paths paths = new Paths(museum);
    private final Habits habits = new Habits(museum);
    private final Rows rows = new Rows(museum);
    private int taped;
    private int faultPlace = NONE;
    private boolean imaged;

    public OpenSaying() {
    }

    public int feed(int a, int b, int c, int d, int e) {
        if (taped + BYTES_A_FEED > MOST_BYTES) {
            return NONE;
        }
        tapeNumber(a);
        tapeNumber(b);
        tapeNumber(c);
        tapeNumber(d);
        tapeNumber(e);
        return taped;
    }

    public int museum(int n) throws IllegalArgumentException {
        if (n < 0 || n > taped) {
            throw new IllegalArgumentException("the tape has not so many bytes");
        }
        taped = 0;
        int found = reader.read(n);
        if (found != Reader.FINE) {
            faultPlace = reader.place;
            refused[REFUSED_TEXTS]++;
            return found;
        }
        faultPlace = NONE;
        museum.copyFrom(draft);
        gallery.copyFrom(sketch);
        imaged = false;
        return Reader.FINE;
    }

    public int fault() {
        return faultPlace;
    }

    public int count(int what) throws NoSuchElementException {
        switch (what) {
            case 0: return museum.states;
            case 1: return museum.words;
            case 2: return museum.arcs;
            case 3: return gallery.sayings;
            case 4: return museum.rules.visitors;
            case 5: return gallery.today;
            case 6: return gallery.acts.held;
            case 7: return gallery.seen;
            case 8: return taped;
            case 9: return refused[REFUSED_TEXTS];
            case 10: return refused[REFUSED_ACTS];
            case 11: return refused[REFUSED_SEEN];
            case 12: return rows.countBroken(gallery);
            case 13: return museum.ends;
            case 14: return gallery.longest();
            default: throw new NoSuchElementException("nothing of that is counted");
        }
    }

    public int letter(int word, int i) throws NoSuchElementException {
        needWord(word);
        if (i == NONE) {
            return museum.lengths[word];
        }
        if (i < 0 || i >= museum.lengths[word]) {
            throw new NoSuchElementException("no such letter");
        }
        return museum.letterAt(word, i);
    }

    public int kind(int word) throws NoSuchElementException {
        needWord(word);
        return museum.kinds[word];
    }

    public int arc(int state, int kind) throws NoSuchElementException {
        needState(state);
        needKind(kind);
        return museum.leadsBy(state, kind);
    }

    public int saying(int saying, int i) throws NoSuchElementException {
        needSaying(saying);
        if (i == NONE) {
            return gallery.lengths[saying];
        }
        if (i == -2) {
            return museum.stateOf(gallery, saying);
        }
        if (i == -3) {
            return gallery.begins[saying];
        }
        needPlace(saying, i);
        return gallery.wordAt(saying, i);
    }

    public int may(int saying) throws NoSuchElementException {
        needSaying(saying);
        return habits.whatMayCome(gallery, saying);
    }

    public int add(int saying, int word) throws NoSuchElementException {
        needSaying(saying);
        needWord(word);
        if ((habits.whatMayCome(gallery, saying) >> word & 1) == 0) {
            return refuseAct();
        }
        int place = gallery.lengths[saying];
        gallery.putIn(saying, place, word);
        gallery.acts.keep(Acts.PUT_IN, saying, place, word);
        return gallery.lengths[saying];
    }

    public int fly(int saying, int i, int word) throws NoSuchElementException {
        needSaying(saying);
        needWord(word);
        if (gallery.lengths[saying] >= MOST_IN_SAYING || i < 0 || i > gallery.lengths[saying]) {
            return refuseAct();
        }
        gallery.putIn(saying, i, word);
        gallery.acts.keep(Acts.PUT_IN, saying, i, word);
        return gallery.lengths[saying];
    }

    public int take(int saying, int i) throws NoSuchElementException {
        needSaying(saying);
        if (i < 0 || i >= gallery.lengths[saying]) {
            return refuseAct();
        }
        int word = gallery.takeOut(saying, i);
        gallery.acts.keep(Acts.TAKEN_OUT, saying, i, word);
        return word;
    }

    public int day() {
        gallery.nextDay();
        gallery.acts.keep(Acts.NEXT_DAY, 0, 0, 0);
        return gallery.today;
    }

    public int undo() {
        return gallery.undoLast();
    }

    public int open(int state) throws NoSuchElementException {
        needState(state);
        return paths.keptOpen(state);
    }

    public int soonest(int state, int i) throws NoSuchElementException {
        needState(state);
        needNoneOrMore(i);
        return i == NONE ? paths.soonestEnd(state) : paths.soonestWord(state, i);
    }

    public int must(int state) throws NoSuchElementException {
        needState(state);
        return paths.mustEnd(state);
    }

    public long ways(int state, int n, boolean end)
            throws NoSuchElementException, IllegalArgumentException {
        needState(state);
        if (n < 0 || n > MOST_WAYS) {
            throw new IllegalArgumentException("ways are of 0 to 12 words");
        }
        return paths.countWays(state, n, end);
    }

    public int turn(int state, int what) throws NoSuchElementException {
        needState(state);
        needOneOfTwo(what);
        return what == 0 ? paths.inTurn(state) : paths.winningWord(state);
    }

    public int costs(int state, int much, int i)
            throws NoSuchElementException, IllegalArgumentException {
        needState(state);
        needNoneOrMore(i);
        if (much < 0 || much > MOST_TO_SPEND) {
            throw new IllegalArgumentException("from 0 to 60 can be spent");
        }
        return i == NONE ? paths.mostFor(state, much) : paths.wordFor(state, much, i);
    }

    public int closed() {
        return paths.closingKinds(gallery);
    }

    public int odds(int visitor, int saying, int word, int what) throws NoSuchElementException {
        if (visitor < 0 || visitor >= museum.rules.visitors) {
            throw new NoSuchElementException("no such visitor");
        }
        needSaying(saying);
        needWord(word);
        needOneOfTwo(what);
        return habits.lowestTerm(gallery, visitor, saying, word, what == 0);
    }

    public int see(int saying, int word) throws NoSuchElementException {
        needSaying(saying);
        needWord(word);
        if (gallery.seen >= MOST_SEEN) {
            refused[REFUSED_SEEN]++;
            return NONE;
        }
        gallery.witness(saying, word);
        return gallery.seen;
    }

    public void forget() {
        gallery.seen = 0;
    }

    public int who(int what) throws NoSuchElementException {
        needOneOfTwo(what);
        return what == 0 ? habits.whoCan(gallery) : habits.likeliest(gallery);
    }

    public int begun(int saying) throws NoSuchElementException {
        needSaying(saying);
        return rows.whereBegun(gallery, saying);
    }

    public int alike(int one, int other) throws NoSuchElementException {
        needSaying(one);
        needSaying(other);
        return rows.fewestChanges(gallery, one, other);
    }

    public int nearest() {
        return rows.nearestTwo(gallery);
    }

    public int culprit(int saying, int what) throws NoSuchElementException {
        needSaying(saying);
        needOneOfTwo(what);
        return what == 0 ? rows.countFlies(gallery, saying) : rows.firstFly(gallery, saying);
    }

    public int season(int seed, int n, int saying)
            throws NoSuchElementException, IllegalArgumentException {
        if (saying != NONE) {
            needSaying(saying);
        }
        if (n < 0 || n > MOST_TIMES) {
            throw new IllegalArgumentException("a season has 0 to 60 times");
        }
        // A season is only imagined: it is played in the sketch, and what is stays.
        sketch.copyFrom(gallery);
        int added = habits.playSeason(sketch, seed, n);
        return saying == NONE ? added : sketch.lengths[saying];
    }

    public int crimes(int state) throws NoSuchElementException {
        needState(state);
        return paths.deadEnds(state);
    }

    public int doors(int state) throws NoSuchElementException {
        needState(state);
        return paths.reached(state);
    }

    public int far(int from, int to) throws NoSuchElementException {
        needState(from);
        needState(to);
        return paths.fewestWords(from, to);
    }

    public int days(int saying, int word) throws NoSuchElementException {
        needSaying(saying);
        needWord(word);
        return habits.daysFor(gallery, saying, word);
    }

    public int mend(int saying, int i) throws NoSuchElementException {
        needSaying(saying);
        int fewest = rows.fewestToMend(gallery, saying);
        if (i == NONE) {
            return fewest;
        }
        needPlace(saying, i);
        if (fewest == NONE) {
            throw new NoSuchElementException("no words mend it");
        }
        return rows.mendedWord(gallery, saying, i);
    }

    public int shared(int one, int other, int what) throws NoSuchElementException {
        needSaying(one);
        needSaying(other);
        needOneOfTwo(what);
        return what == 0
                ? rows.longestShared(gallery, one, other)
                : rows.whereShared(gallery, one, other);
    }

    public int about(int word) throws NoSuchElementException {
        needWord(word);
        int bits = 0;
        for (int saying = 0; saying < gallery.sayings; saying++) {
            if (gallery.timesIn(saying, word) > 0) {
                bits |= 1 << saying;
            }
        }
        return bits;
    }

    public int often(int saying, int kind) throws NoSuchElementException {
        needSaying(saying);
        needKind(kind);
        int times = 0;
        for (int i = 0; i < gallery.lengths[saying]; i++) {
            if (museum.kindOf(gallery.wordAt(saying, i)) == kind) {
                times++;
            }
        }
        return times;
    }

    public int cost(int saying) throws NoSuchElementException {
        needSaying(saying);
        int sum = 0;
        for (int i = 0; i < gallery.lengths[saying]; i++) {
            sum += museum.priceOf(museum.kindOf(gallery.wordAt(saying, i)));
        }
        return sum;
    }

    public void image() {
        image.copyFrom(gallery);
        imaged = true;
    }

    public boolean restore() {
        if (!imaged) {
            return false;
        }
        gallery.copyFrom(image);
        return true;
    }

    private void tapeNumber(int number) {
        for (int shift = 24; shift >= 0; shift -= 8) {
            if (taped < MOST_BYTES) {
                tape[taped] = number >>> shift & 255;
                taped++;
            }
        }
    }

    private int refuseAct() {
        refused[REFUSED_ACTS]++;
        return NONE;
    }

    private void needState(int state) {
        if (state < 0 || state >= museum.states) {
            throw new NoSuchElementException("no such state");
        }
    }

    private void needWord(int word) {
        if (word < 0 || word >= museum.words) {
            throw new NoSuchElementException("no such word");
        }
    }

    private void needKind(int kind) {
        if (kind < 0 || kind >= KINDS) {
            throw new NoSuchElementException("no such kind");
        }
    }

    private void needSaying(int saying) {
        if (saying < 0 || saying >= gallery.sayings) {
            throw new NoSuchElementException("no such saying");
        }
    }

    private void needPlace(int saying, int i) {
        if (i < 0 || i >= gallery.lengths[saying]) {
            throw new NoSuchElementException("no such place in the saying");
        }
    }

    private void needNoneOrMore(int i) {
        if (i < NONE) {
            throw new NoSuchElementException("no such place in a row");
        }
    }

    private void needOneOfTwo(int what) {
        if (what != 0 && what != 1) {
            throw new NoSuchElementException("nothing of that is known");
        }
    }

    /** The rules of a museum as rows of steps for a stack: the habits, and behind them the law. */
    private static final class Rules {
        static final int LAW = MOST_VISITORS;
        static final int VALUES = 7;
        static final int KIND = 0;
        static final int LETTERS = 1;
        static final int WORD = 2;
        static final int DAY = 3;
        static final int LONG = 4;
        static final int SAME = 5;
        static final int RHYMES = 6;

        // A step from 0 on is a number; NOT and less are deeds; those between are values.
        static final int NOT = -8;
        static final int OR = -9;
        static final int AND = -10;
        static final int LESS = -11;
        static final int EQUAL = -12;
        static final int PLUS = -13;
        static final int MINUS = -14;
        static final int TIMES = -15;
        static final int BY = -16;

        // In each of six nested rules five joins can wait for what is right of them: far less than this.
        private static final int STACK = 64;

        int visitors;
        boolean lawful;
        private int size;
        private final int[] steps = new int[MOST_BYTES];
        private final int[] begins = new int[MOST_VISITORS + 1];
        private final int[] ends = new int[MOST_VISITORS + 1];
        private final int[] stack = new int[STACK];

        void clear() {
            visitors = 0;
            lawful = false;
            size = 0;
            Arrays.fill(begins, 0);
            Arrays.fill(ends, 0);
        }

        void copyFrom(Rules other) {
            visitors = other.visitors;
            lawful = other.lawful;
            size = other.size;
            System.arraycopy(other.steps, 0, steps, 0, steps.length);
            System.arraycopy(other.begins, 0, begins, 0, begins.length);
            System.arraycopy(other.ends, 0, ends, 0, ends.length);
        }

        void begin(int rule) {
            if (rule >= 0 && rule < begins.length) {
                begins[rule] = size;
            }
        }

        void end(int rule) {
            if (rule >= 0 && rule < ends.length) {
                ends[rule] = size;
            }
        }

        void step(int step) {
            if (size < steps.length) {
                steps[size] = step;
                size++;
            }
        }

        static int stepOfValue(int value) {
            return -1 - value;
        }

        int give(int rule, int[] values) {
            if (rule < 0 || rule >= begins.length) {
                return 0;
            }
            int top = 0;
            for (int at = begins[rule]; at < ends[rule] && at < steps.length; at++) {
                int step = steps[at];
                if (step > NOT) {
                    if (top < stack.length) {
                        stack[top] = step >= 0 ? step : valueOf(step, values);
                        top++;
                    }
                } else if (step == NOT) {
                    if (top > 0) {
                        stack[top - 1] = stack[top - 1] == 0 ? 1 : 0;
                    }
                } else if (top > 1) {
                    top--;
                    stack[top - 1] = join(step, stack[top - 1], stack[top]);
                }
            }
            return top > 0 ? stack[0] : 0;
        }

        private static int valueOf(int step, int[] values) {
            int value = -1 - step;
            return value >= 0 && value < values.length ? values[value] : 0;
        }

        private static int join(int step, int left, int right) {
            switch (step) {
                case OR: return left != 0 || right != 0 ? 1 : 0;
                case AND: return left != 0 && right != 0 ? 1 : 0;
                case LESS: return left < right ? 1 : 0;
                case EQUAL: return left == right ? 1 : 0;
                case PLUS: return left + right;
                case MINUS: return left - right;
                case TIMES: return left * right;
                default: return right == 0 ? 0 : left / right;
            }
        }
    }

    /** What a text tells that no act changes: states, words, arcs, costs and rules. */
    private static final class Museum {
        int states;
        int ends;
        int words;
        int arcs;
        int kindsTold;
        int costsTold;
        final int[] lengths = new int[MOST_WORDS];
        final int[] kinds = new int[MOST_WORDS];
        final int[] wordsOfKind = new int[KINDS];
        final Rules rules = new Rules();
        private final int[] letters = new int[MOST_WORDS * MOST_LETTERS];
        private final int[] targets = new int[MOST_STATES * KINDS];
        private final int[] prices = new int[KINDS];

        Museum() {
            Arrays.fill(targets, NONE);
            Arrays.fill(prices, 1);
        }

        void clear() {
            states = 0;
            ends = 0;
            words = 0;
            arcs = 0;
            kindsTold = 0;
            costsTold = 0;
            Arrays.fill(wordsOfKind, 0);
            Arrays.fill(targets, NONE);
            Arrays.fill(prices, 1);
            rules.clear();
        }

        void copyFrom(Museum other) {
            states = other.states;
            ends = other.ends;
            words = other.words;
            arcs = other.arcs;
            kindsTold = other.kindsTold;
            costsTold = other.costsTold;
            System.arraycopy(other.lengths, 0, lengths, 0, lengths.length);
            System.arraycopy(other.kinds, 0, kinds, 0, kinds.length);
            System.arraycopy(other.wordsOfKind, 0, wordsOfKind, 0, wordsOfKind.length);
            System.arraycopy(other.letters, 0, letters, 0, letters.length);
            System.arraycopy(other.targets, 0, targets, 0, targets.length);
            System.arraycopy(other.prices, 0, prices, 0, prices.length);
            rules.copyFrom(other.rules);
        }

        void putState(boolean end) {
            if (states < MOST_STATES) {
                if (end) {
                    ends |= 1 << states;
                }
                states++;
            }
        }

        /** The letters stand there already, by putLetter. */
        void putWord(int length, int kind) {
            if (words < MOST_WORDS && kind >= 0 && kind < KINDS) {
                lengths[words] = length;
                kinds[words] = kind;
                wordsOfKind[kind]++;
                kindsTold |= 1 << kind;
                words++;
            }
        }

        void putLetter(int word, int i, int letter) {
            if (word >= 0 && word < MOST_WORDS && i >= 0 && i < MOST_LETTERS) {
                letters[word * MOST_LETTERS + i] = letter;
            }
        }

        void putArc(int state, int kind, int target) {
            if (state >= 0 && state < MOST_STATES && kind >= 0 && kind < KINDS) {
                targets[state * KINDS + kind] = target;
                arcs++;
            }
        }

        void putPrice(int kind, int price) {
            if (kind >= 0 && kind < KINDS) {
                prices[kind] = price;
                costsTold |= 1 << kind;
            }
        }

        int letterAt(int word, int i) {
            if (word < 0 || word >= MOST_WORDS || i < 0 || i >= MOST_LETTERS) {
                return 0;
            }
            return letters[word * MOST_LETTERS + i];
        }

        int lastLetter(int word) {
            if (word < 0 || word >= words || lengths[word] <= 0 || lengths[word] > MOST_LETTERS) {
                return 0;
            }
            return letters[word * MOST_LETTERS + lengths[word] - 1];
        }

        int lengthOf(int word) {
            return word < 0 || word >= words ? 0 : lengths[word];
        }

        int kindOf(int word) {
            return word < 0 || word >= words ? NONE : kinds[word];
        }

        int priceOf(int kind) {
            return kind < 0 || kind >= KINDS ? 0 : prices[kind];
        }

        int leadsBy(int state, int kind) {
            if (state < 0 || state >= states || kind < 0 || kind >= KINDS) {
                return NONE;
            }
            return targets[state * KINDS + kind];
        }

        int leadsTo(int state, int word) {
            if (state < 0 || state >= states || word < 0 || word >= words) {
                return NONE;
            }
            return targets[state * KINDS + kinds[word]];
        }

        boolean someFollows(int state) {
            for (int kind = 0; kind < KINDS; kind++) {
                if ((kindsTold >> kind & 1) != 0 && leadsBy(state, kind) != NONE) {
                    return true;
                }
            }
            return false;
        }

        int stateOf(Gallery gallery, int saying) {
            return stateFrom(gallery, saying, gallery.beginOf(saying), NONE);
        }

        /** The state to which a saying's words lead, one of them left out; NONE: they break. */
        int stateFrom(Gallery gallery, int saying, int begin, int leftOut) {
            int state = begin;
            int length = gallery.lengthOf(saying);
            for (int i = 0; i < length && state != NONE; i++) {
                if (i != leftOut) {
                    state = leadsTo(state, gallery.wordAt(saying, i));
                }
            }
            return state;
        }
    }

    /** The latest acts, each with what it takes to undo it. */
    private static final class Acts {
        static final int PUT_IN = 0;
        static final int TAKEN_OUT = 1;
        static final int NEXT_DAY = 2;

        int held;
        final int[] deeds = new int[MOST_ACTS];
        final int[] sayings = new int[MOST_ACTS];
        final int[] places = new int[MOST_ACTS];
        final int[] words = new int[MOST_ACTS];

        void keep(int deed, int saying, int place, int word) {
            if (held >= MOST_ACTS) {
                forgetOldest();
            }
            deeds[held] = deed;
            sayings[held] = saying;
            places[held] = place;
            words[held] = word;
            held++;
        }

        private void forgetOldest() {
            held = MOST_ACTS - 1;
            System.arraycopy(deeds, 1, deeds, 0, held);
            System.arraycopy(sayings, 1, sayings, 0, held);
            System.arraycopy(places, 1, places, 0, held);
            System.arraycopy(words, 1, words, 0, held);
        }

        void copyFrom(Acts other) {
            held = other.held;
            System.arraycopy(other.deeds, 0, deeds, 0, MOST_ACTS);
            System.arraycopy(other.sayings, 0, sayings, 0, MOST_ACTS);
            System.arraycopy(other.places, 0, places, 0, MOST_ACTS);
            System.arraycopy(other.words, 0, words, 0, MOST_ACTS);
        }
    }

    /** What acts change and an image keeps: sayings, the day, acts and what is seen. */
    private static final class Gallery {
        int sayings;
        int today;
        int seen;
        final int[] begins = new int[MOST_SAYINGS];
        final int[] lengths = new int[MOST_SAYINGS];
        final Acts acts = new Acts();
        private final int[] words = new int[MOST_SAYINGS * MOST_IN_SAYING];
        final int[] seenSayings = new int[MOST_SEEN];
        final int[] seenWords = new int[MOST_SEEN];

        void clear() {
            sayings = 0;
            today = 0;
            seen = 0;
            acts.held = 0;
        }

        void copyFrom(Gallery other) {
            sayings = other.sayings;
            today = other.today;
            seen = other.seen;
            System.arraycopy(other.begins, 0, begins, 0, MOST_SAYINGS);
            System.arraycopy(other.lengths, 0, lengths, 0, MOST_SAYINGS);
            System.arraycopy(other.words, 0, words, 0, words.length);
            System.arraycopy(other.seenSayings, 0, seenSayings, 0, MOST_SEEN);
            System.arraycopy(other.seenWords, 0, seenWords, 0, MOST_SEEN);
            acts.copyFrom(other.acts);
        }

        void putSaying(int begin) {
            if (sayings < MOST_SAYINGS) {
                begins[sayings] = begin;
                lengths[sayings] = 0;
                sayings++;
            }
        }

        int beginOf(int saying) {
            return saying < 0 || saying >= sayings ? NONE : begins[saying];
        }

        int lengthOf(int saying) {
            return saying < 0 || saying >= sayings ? 0 : lengths[saying];
        }

        int wordAt(int saying, int i) {
            if (saying < 0 || saying >= sayings || i < 0 || i >= lengths[saying]) {
                return NONE;
            }
            return words[saying * MOST_IN_SAYING + i];
        }

        int longest() {
            int most = 0;
            for (int saying = 0; saying < sayings; saying++) {
                most = Math.max(most, lengthOf(saying));
            }
            return most;
        }

        int timesIn(int saying, int word) {
            if (saying < 0 || saying >= sayings) {
                return 0;
            }
            int times = 0;
            for (int i = 0; i < lengths[saying]; i++) {
                if (words[saying * MOST_IN_SAYING + i] == word) {
                    times++;
                }
            }
            return times;
        }

        void putIn(int saying, int place, int word) {
            int length = lengthOf(saying);
            if (saying < 0 || saying >= sayings || length >= MOST_IN_SAYING
                    || place < 0 || place > length) {
                return;
            }
            int at = saying * MOST_IN_SAYING + place;
            System.arraycopy(words, at, words, at + 1, length - place);
            words[at] = word;
            lengths[saying] = length + 1;
        }

        int takeOut(int saying, int place) {
            int length = lengthOf(saying);
            if (place < 0 || place >= length) {
                return NONE;
            }
            int at = saying * MOST_IN_SAYING + place;
            int word = words[at];
            System.arraycopy(words, at + 1, words, at, length - place - 1);
            lengths[saying] = length - 1;
            return word;
        }

        void nextDay() {
            today = (today + 1) % WEEK;
        }

        int undoLast() {
            if (acts.held <= 0) {
                return NONE;
            }
            acts.held--;
            int last = acts.held;
            if (acts.deeds[last] == Acts.PUT_IN) {
                takeOut(acts.sayings[last], acts.places[last]);
            } else if (acts.deeds[last] == Acts.TAKEN_OUT) {
                putIn(acts.sayings[last], acts.places[last], acts.words[last]);
            } else {
                today = (today + WEEK - 1) % WEEK;
            }
            return last;
        }

        void witness(int saying, int word) {
            if (seen < MOST_SEEN) {
                seenSayings[seen] = saying;
                seenWords[seen] = word;
                seen++;
            }
        }
    }

    /** The tokens of a text on the tape, one at a time. */
    private static final class Tokens {
        static final int END = 0;
        static final int WORD = 1;
        static final int NUMBER = 2;
        static final int SIGN = 3;
        static final int UNKNOWN = 4;

        private static final String SIGNS = ";()+-*/<=";
        private static final int BLANK = 32;
        private static final int NEW_LINE = 10;

        int type;
        int start;
        private final int[] text;
        private int length;
        private int stop;

        Tokens(int[] text) {
            this.text = text;
        }

        void begin(int bytes) {
            length = Math.min(bytes, text.length);
            stop = 0;
            next();
        }

        void next() {
            start = stop;
            while (start < length && isBlank(text[start])) {
                start++;
            }
            stop = start;
            if (start >= length) {
                type = END;
            } else if (isLetter(text[start])) {
                type = WORD;
                while (stop < length && isLetter(text[stop])) {
                    stop++;
                }
            } else if (isDigit(text[start])) {
                type = NUMBER;
                while (stop < length && isDigit(text[stop])) {
                    stop++;
                }
            } else {
                type = SIGNS.indexOf((char) text[start]) >= 0 ? SIGN : UNKNOWN;
                stop = start + 1;
            }
        }

        int size() {
            return stop - start;
        }

        boolean isSign(char sign) {
            return type == SIGN && start < length && text[start] == sign;
        }

        boolean isWord(String word) {
            if (type != WORD || stop - start != word.length()) {
                return false;
            }
            for (int i = 0; i < word.length(); i++) {
                if (text[start + i] != word.charAt(i)) {
                    return false;
                }
            }
            return true;
        }

        int letterNumber(int i) {
            return i < 0 || i >= stop - start ? 0 : text[start + i] - 'a' + 1;
        }

        /** Of a number that is not too long; a longer one is refused ahead of that. */
        int number() {
            int value = 0;
            for (int at = start; at < stop && at < length; at++) {
                value = value * 10 + text[at] - '0';
            }
            return value;
        }

        private static boolean isBlank(int b) {
            return b == BLANK || b == NEW_LINE;
        }

        private static boolean isLetter(int b) {
            return b >= 'a' && b <= 'z';
        }

        private static boolean isDigit(int b) {
            return b >= '0' && b <= '9';
        }
    }

    /** Reads a text into a museum and a gallery; every method tells whether it found no fault. */
    private static final class Reader {
        static final int FINE = 0;

        private static final int CANNOT_STAND = 1;
        private static final int TOO_MUCH = 2;
        private static final int NOT_TOLD = 3;
        private static final int TOLD_ALREADY = 4;
        private static final int SECOND_LAW = 5;
        private static final int NO_ARC = 6;
        private static final int MOST_DIGITS = 4;
        private static final int MOST_NUMBER = 9999;
        private static final int MOST_NOTS = 6;
        private static final int MOST_NESTED = 6;

        int place;
        private int found;
        private final Tokens tokens;
        private final Museum museum;
        private final Gallery gallery;

        Reader(int[] text, Museum museum, Gallery gallery) {
            this.tokens = new Tokens(text);
            this.museum = museum;
            this.gallery = gallery;
        }

        int read(int bytes) {
            museum.clear();
            gallery.clear();
            found = FINE;
            place = NONE;
            tokens.begin(bytes);
            // No text has more lines than bytes.
            for (int line = 0; line <= MOST_BYTES; line++) {
                if (tokens.type == Tokens.END || !readLine()) {
                    return found;
                }
            }
            return found;
        }

        private boolean refuse(int why) {
            found = why;
            place = tokens.start;
            return false;
        }

        private boolean readLine() {
            if (tokens.isWord("state")) {
                return readState();
            }
            if (tokens.isWord("word")) {
                return readWord();
            }
            if (tokens.isWord("arc")) {
                return readArc();
            }
            if (tokens.isWord("cost")) {
                return readCost();
            }
            if (tokens.isWord("saying")) {
                return readSaying();
            }
            if (tokens.isWord("habit")) {
                return readHabit();
            }
            if (tokens.isWord("law")) {
                return readLaw();
            }
            return refuse(CANNOT_STAND);
        }

        private boolean readState() {
            if (museum.states >= MOST_STATES) {
                return refuse(TOO_MUCH);
            }
            tokens.next();
            boolean end = tokens.isWord("end");
            if (end) {
                tokens.next();
            }
            museum.putState(end);
            return passLineEnd();
        }

        private boolean readWord() {
            if (museum.words >= MOST_WORDS) {
                return refuse(TOO_MUCH);
            }
            tokens.next();
            if (tokens.type != Tokens.WORD) {
                return refuse(CANNOT_STAND);
            }
            int length = tokens.size();
            if (length > MOST_LETTERS) {
                return refuse(TOO_MUCH);
            }
            if (isToldRow()) {
                return refuse(TOLD_ALREADY);
            }
            for (int i = 0; i < length; i++) {
                museum.putLetter(museum.words, i, tokens.letterNumber(i));
            }
            tokens.next();
            if (!isNumberTo(KINDS - 1)) {
                return false;
            }
            museum.putWord(length, tokens.number());
            tokens.next();
            return passLineEnd();
        }

        private boolean isToldRow() {
            for (int word = 0; word < museum.words; word++) {
                if (isRowOf(word)) {
                    return true;
                }
            }
            return false;
        }

        private boolean isRowOf(int word) {
            int length = museum.lengthOf(word);
            if (length != tokens.size()) {
                return false;
            }
            for (int i = 0; i < length; i++) {
                if (museum.letterAt(word, i) != tokens.letterNumber(i)) {
                    return false;
                }
            }
            return true;
        }

        private boolean readArc() {
            if (museum.arcs >= MOST_ARCS) {
                return refuse(TOO_MUCH);
            }
            tokens.next();
            if (!isToldNumber(museum.states)) {
                return false;
            }
            int state = tokens.number();
            tokens.next();
            if (!isNumberTo(KINDS - 1)) {
                return false;
            }
            int kind = tokens.number();
            if (museum.leadsBy(state, kind) != NONE) {
                return refuse(TOLD_ALREADY);
            }
            tokens.next();
            if (!isToldNumber(museum.states)) {
                return false;
            }
            museum.putArc(state, kind, tokens.number());
            tokens.next();
            return passLineEnd();
        }

        private boolean readCost() {
            tokens.next();
            if (!isNumberTo(KINDS - 1)) {
                return false;
            }
            int kind = tokens.number();
            if ((museum.costsTold >> kind & 1) != 0) {
                return refuse(TOLD_ALREADY);
            }
            tokens.next();
            if (!isNumberTo(MOST_COST)) {
                return false;
            }
            museum.putPrice(kind, tokens.number());
            tokens.next();
            return passLineEnd();
        }

        private boolean readSaying() {
            if (gallery.sayings >= MOST_SAYINGS) {
                return refuse(TOO_MUCH);
            }
            tokens.next();
            if (!isToldNumber(museum.states)) {
                return false;
            }
            int saying = gallery.sayings;
            int state = tokens.number();
            gallery.putSaying(state);
            tokens.next();
            // The 41st word is refused, so that more rounds are never needed.
            for (int i = 0; i <= MOST_IN_SAYING && !tokens.isSign(';'); i++) {
                if (!isWordOfSaying(saying, state)) {
                    return false;
                }
                state = museum.leadsTo(state, tokens.number());
                gallery.putIn(saying, i, tokens.number());
                tokens.next();
            }
            return passLineEnd();
        }

        private boolean isWordOfSaying(int saying, int state) {
            if (tokens.type == Tokens.NUMBER && gallery.lengthOf(saying) >= MOST_IN_SAYING) {
                return refuse(TOO_MUCH);
            }
            if (!isToldNumber(museum.words)) {
                return false;
            }
            if (museum.leadsTo(state, tokens.number()) == NONE) {
                return refuse(NO_ARC);
            }
            return true;
        }

        private boolean readHabit() {
            int visitor = museum.rules.visitors;
            if (visitor >= MOST_VISITORS) {
                return refuse(TOO_MUCH);
            }
            museum.rules.visitors = visitor + 1;
            return readRule(visitor);
        }

        private boolean readLaw() {
            if (museum.rules.lawful) {
                return refuse(SECOND_LAW);
            }
            museum.rules.lawful = true;
            return readRule(Rules.LAW);
        }

        private boolean readRule(int rule) {
            tokens.next();
            museum.rules.begin(rule);
            if (!readExpr(0)) {
                return false;
            }
            museum.rules.end(rule);
            return passLineEnd();
        }

        private boolean readExpr(int nested) {
            if (nested >= MOST_NESTED) {
                return refuse(canBeginExpr() ? TOO_MUCH : CANNOT_STAND);
            }
            if (!readAnd(nested)) {
                return false;
            }
            for (int more = 0; more < MOST_BYTES && tokens.isWord("or"); more++) {
                tokens.next();
                if (!readAnd(nested)) {
                    return false;
                }
                museum.rules.step(Rules.OR);
            }
            return true;
        }

        private boolean canBeginExpr() {
            return tokens.type == Tokens.NUMBER || tokens.type == Tokens.WORD || tokens.isSign('(');
        }

        private boolean readAnd(int nested) {
            if (!readNot(nested)) {
                return false;
            }
            for (int more = 0; more < MOST_BYTES && tokens.isWord("and"); more++) {
                tokens.next();
                if (!readNot(nested)) {
                    return false;
                }
                museum.rules.step(Rules.AND);
            }
            return true;
        }

        private boolean readNot(int nested) {
            int nots = 0;
            while (nots <= MOST_NOTS && tokens.isWord("not")) {
                nots++;
                if (nots > MOST_NOTS) {
                    return refuse(TOO_MUCH);
                }
                tokens.next();
            }
            if (!readTest(nested)) {
                return false;
            }
            for (int i = 0; i < nots; i++) {
                museum.rules.step(Rules.NOT);
            }
            return true;
        }

        private boolean readTest(int nested) {
            if (!readSum(nested)) {
                return false;
            }
            boolean less = tokens.isSign('<');
            if (!less && !tokens.isSign('=')) {
                return true;
            }
            tokens.next();
            if (!readSum(nested)) {
                return false;
            }
            museum.rules.step(less ? Rules.LESS : Rules.EQUAL);
            return true;
        }

        private boolean readSum(int nested) {
            if (!readProduct(nested)) {
                return false;
            }
            for (int more = 0; more < MOST_BYTES; more++) {
                boolean plus = tokens.isSign('+');
                if (!plus && !tokens.isSign('-')) {
                    return true;
                }
                tokens.next();
                if (!readProduct(nested)) {
                    return false;
                }
                museum.rules.step(plus ? Rules.PLUS : Rules.MINUS);
            }
            return true;
        }

        private boolean readProduct(int nested) {
            if (!readPart(nested)) {
                return false;
            }
            for (int more = 0; more < MOST_BYTES; more++) {
                boolean times = tokens.isSign('*');
                if (!times && !tokens.isSign('/')) {
                    return true;
                }
                tokens.next();
                if (!readPart(nested)) {
                    return false;
                }
                museum.rules.step(times ? Rules.TIMES : Rules.BY);
            }
            return true;
        }

        private boolean readPart(int nested) {
            if (tokens.isSign('(')) {
                tokens.next();
                if (!readExpr(nested + 1)) {
                    return false;
                }
                if (!tokens.isSign(')')) {
                    return refuse(CANNOT_STAND);
                }
            } else if (tokens.type == Tokens.WORD) {
                int value = valueNamed();
                if (value == NONE) {
                    return refuse(NOT_TOLD);
                }
                museum.rules.step(Rules.stepOfValue(value));
            } else {
                if (!isNumberTo(MOST_NUMBER)) {
                    return false;
                }
                museum.rules.step(tokens.number());
            }
            tokens.next();
            return true;
        }

        private int valueNamed() {
            if (tokens.isWord("kind")) {
                return Rules.KIND;
            }
            if (tokens.isWord("letters")) {
                return Rules.LETTERS;
            }
            if (tokens.isWord("word")) {
                return Rules.WORD;
            }
            if (tokens.isWord("day")) {
                return Rules.DAY;
            }
            if (tokens.isWord("long")) {
                return Rules.LONG;
            }
            if (tokens.isWord("same")) {
                return Rules.SAME;
            }
            return tokens.isWord("rhymes") ? Rules.RHYMES : NONE;
        }

        private boolean passLineEnd() {
            if (!tokens.isSign(';')) {
                return refuse(CANNOT_STAND);
            }
            tokens.next();
            return true;
        }

        private boolean isNumberTo(int most) {
            if (tokens.type != Tokens.NUMBER) {
                return refuse(CANNOT_STAND);
            }
            if (tokens.size() > MOST_DIGITS || tokens.number() > most) {
                return refuse(TOO_MUCH);
            }
            return true;
        }

        private boolean isToldNumber(int told) {
            if (!isNumberTo(MOST_NUMBER)) {
                return false;
            }
            return tokens.number() < told || refuse(NOT_TOLD);
        }
    }

    /** The guards and the visitors: what may come, and by whose habit. */
    private static final class Habits {
        private final Museum museum;
        private final int[] values = new int[Rules.VALUES];
        private final int[] weights = new int[MOST_WORDS];
        private long upper;
        private long lower;

        Habits(Museum museum) {
            this.museum = museum;
        }

        int whatMayCome(Gallery gallery, int saying) {
            int state = museum.stateOf(gallery, saying);
            int bits = 0;
            for (int word = 0; word < museum.words; word++) {
                if (isFree(gallery, saying, state, word)
                        && isLawful(gallery, saying, word, gallery.today)) {
                    bits |= 1 << word;
                }
            }
            return bits;
        }

        int daysFor(Gallery gallery, int saying, int word) {
            if (!isFree(gallery, saying, museum.stateOf(gallery, saying), word)) {
                return 0;
            }
            int bits = 0;
            for (int day = 0; day < WEEK; day++) {
                if (isLawful(gallery, saying, word, day)) {
                    bits |= 1 << day;
                }
            }
            return bits;
        }

        /** Whether a word may come as far as the guards see, without the law. */
        private boolean isFree(Gallery gallery, int saying, int state, int word) {
            int behind = museum.leadsTo(state, word);
            return behind != NONE && museum.someFollows(behind)
                    && gallery.lengthOf(saying) < MOST_IN_SAYING;
        }

        private boolean isLawful(Gallery gallery, int saying, int word, int day) {
            if (!museum.rules.lawful) {
                return true;
            }
            fillValues(gallery, saying, word, day);
            return museum.rules.give(Rules.LAW, values) != 0;
        }

        private void fillValues(Gallery gallery, int saying, int word, int day) {
            int length = gallery.lengthOf(saying);
            int last = gallery.wordAt(saying, length - 1);
            boolean rhymes = last != NONE && museum.lastLetter(last) == museum.lastLetter(word);
            values[Rules.KIND] = museum.kindOf(word);
            values[Rules.LETTERS] = museum.lengthOf(word);
            values[Rules.WORD] = word;
            values[Rules.DAY] = day;
            values[Rules.LONG] = length;
            values[Rules.SAME] = gallery.timesIn(saying, word);
            values[Rules.RHYMES] = rhymes ? 1 : 0;
        }

        /** Weighs all words for a visitor and a saying, in the row of weights: their sum. */
        private int weigh(Gallery gallery, int visitor, int saying) {
            int may = whatMayCome(gallery, saying);
            int sum = 0;
            for (int word = 0; word < MOST_WORDS; word++) {
                int weight = 0;
                if ((may >> word & 1) != 0) {
                    fillValues(gallery, saying, word, gallery.today);
                    weight = museum.rules.give(visitor, values);
                }
                weights[word] = Math.max(0, Math.min(MOST_WEIGHT, weight));
                sum += weights[word];
            }
            return sum;
        }

        private int weightOf(int word) {
            return word < 0 || word >= MOST_WORDS ? 0 : weights[word];
        }

        int lowestTerm(Gallery gallery, int visitor, int saying, int word, boolean upperOne) {
            int sum = weigh(gallery, visitor, saying);
            int weight = weightOf(word);
            if (weight == 0 || sum == 0) {
                return upperOne ? 0 : 1;
            }
            int divisor = greatestDivisor(sum, weight);
            return (upperOne ? weight : sum) / divisor;
        }

        /** Of two numbers from 1 on; never less than 1. */
        private static int greatestDivisor(int more, int less) {
            int a = more;
            int b = less;
            // The rests shrink, so that no more rounds are needed than the greater number says.
            for (int round = 0; round <= more && b > 0; round++) {
                int rest = a % b;
                a = b;
                b = rest;
            }
            return Math.max(1, a);
        }

        int whoCan(Gallery gallery) {
            int bits = 0;
            for (int visitor = 0; visitor < museum.rules.visitors; visitor++) {
                if (multiplyOdds(gallery, visitor)) {
                    bits |= 1 << visitor;
                }
            }
            return bits;
        }

        int likeliest(Gallery gallery) {
            int best = NONE;
            long bestUpper = 0;
            long bestLower = 1;
            for (int visitor = 0; visitor < museum.rules.visitors; visitor++) {
                if (multiplyOdds(gallery, visitor) && upper * bestLower > bestUpper * lower) {
                    best = visitor;
                    bestUpper = upper;
                    bestLower = lower;
                }
            }
            return best;
        }

        /** Leaves a visitor's odds for all that is seen in upper and lower: whether it can be. */
        private boolean multiplyOdds(Gallery gallery, int visitor) {
            upper = 1;
            lower = 1;
            for (int i = 0; i < gallery.seen && i < MOST_SEEN; i++) {
                int sum = weigh(gallery, visitor, gallery.seenSayings[i]);
                upper *= weightOf(gallery.seenWords[i]);
                lower *= sum;
            }
            return upper > 0;
        }

        /** Plays a season in a gallery, which it changes: how many words were added. */
        int playSeason(Gallery gallery, int seed, int times) {
            if (gallery.sayings <= 0 || museum.rules.visitors <= 0) {
                return 0;
            }
            int added = 0;
            int drawn = seed;
            for (int time = 0; time < times; time++) {
                drawn = nextSeed(drawn);
                int saying = draw(drawn, gallery.sayings);
                drawn = nextSeed(drawn);
                int visitor = draw(drawn, museum.rules.visitors);
                int sum = weigh(gallery, visitor, saying);
                if (sum > 0) {
                    drawn = nextSeed(drawn);
                    int word = wordAtWeight(draw(drawn, sum));
                    gallery.putIn(saying, gallery.lengthOf(saying), word);
                    added++;
                }
                gallery.nextDay();
            }
            return added;
        }

        private static int nextSeed(int seed) {
            return seed * 1103515245 + 12345;
        }

        private static int draw(int seed, int n) {
            return n <= 0 ? 0 : (seed >>> 16 & 32767) % n;
        }

        private int wordAtWeight(int drawn) {
            int left = drawn;
            for (int word = 0; word < MOST_WORDS; word++) {
                if (left < weights[word]) {
                    return word;
                }
                left -= weights[word];
            }
            return 0;
        }
    }

    /** What the grammar alone says of a state; sets of states are bits. */
    private static final class Paths {
        private static final int TOO_DEAR = 1000000;
        private static final int WINS = 1;
        private static final int LOSES = 2;

        private final Museum museum;
        private final int[] behind = new int[MOST_STATES];
        private final int[] distances = new int[MOST_STATES];
        private final int[] leastCosts = new int[(MOST_IN_SAYING + 1) * MOST_STATES];
        private final long[] rowsNow = new long[MOST_STATES];
        private final long[] rowsNext = new long[MOST_STATES];
        private int losing;
        private int winning;

        Paths(Museum museum) {
            this.museum = museum;
        }

        private int allStates() {
            return (1 << museum.states) - 1;
        }

        /** Fills the row of the states behind each state by one word, some kinds being closed. */
        private void lookBehind(int closedKinds) {
            int kinds = museum.kindsTold & ~closedKinds;
            for (int state = 0; state < museum.states; state++) {
                int bits = 0;
                for (int kind = 0; kind < KINDS; kind++) {
                    int target = museum.leadsBy(state, kind);
                    if ((kinds >> kind & 1) != 0 && target != NONE) {
                        bits |= 1 << target;
                    }
                }
                behind[state] = bits;
            }
        }

        private int allBehind(int states) {
            int bits = 0;
            for (int state = 0; state < museum.states; state++) {
                if ((states >> state & 1) != 0) {
                    bits |= behind[state];
                }
            }
            return bits;
        }

        /** Of some states those from which one word leads to some of others. */
        private int leadingInto(int states, int others) {
            int bits = 0;
            for (int state = 0; state < museum.states; state++) {
                if ((states >> state & 1) != 0 && (behind[state] & others) != 0) {
                    bits |= 1 << state;
                }
            }
            return bits;
        }

        /** The longest row from a state that stays within some states; NONE: without end. */
        private int longestWithin(int state, int within) {
            int going = within;
            // A row as long as there are states comes twice to one, and can so go on for ever.
            for (int words = 1; words <= museum.states; words++) {
                going = leadingInto(within, going);
                if ((going >> state & 1) == 0) {
                    return words - 1;
                }
            }
            return NONE;
        }

        int keptOpen(int state) {
            lookBehind(0);
            return longestWithin(state, allStates());
        }

        int mustEnd(int state) {
            if ((museum.ends >> state & 1) != 0) {
                return 0;
            }
            lookBehind(0);
            int longest = longestWithin(state, allStates() & ~museum.ends);
            return longest == NONE ? NONE : longest + 1;
        }

        private void measureToEnds() {
            lookBehind(0);
            int near = museum.ends;
            for (int state = 0; state < museum.states; state++) {
                distances[state] = (near >> state & 1) != 0 ? 0 : NONE;
            }
            for (int words = 1; words < museum.states; words++) {
                int come = leadingInto(allStates() & ~near, near);
                for (int state = 0; state < museum.states; state++) {
                    if ((come >> state & 1) != 0) {
                        distances[state] = words;
                    }
                }
                near |= come;
            }
        }

        private int distanceOf(int state) {
            return state < 0 || state >= museum.states ? NONE : distances[state];
        }

        int soonestEnd(int state) {
            measureToEnds();
            return distanceOf(state);
        }

        int soonestWord(int state, int i) {
            measureToEnds();
            if (i >= distanceOf(state)) {
                return NONE;
            }
            int now = state;
            for (int place = 0; place < i && place < MOST_STATES; place++) {
                now = museum.leadsTo(now, firstNearer(now));
            }
            return firstNearer(now);
        }

        private int firstNearer(int state) {
            int wanted = distanceOf(state) - 1;
            for (int word = 0; word < museum.words; word++) {
                int target = museum.leadsTo(state, word);
                if (target != NONE && distanceOf(target) == wanted) {
                    return word;
                }
            }
            return NONE;
        }

        long countWays(int state, int n, boolean toEnd) {
            for (int from = 0; from < museum.states; from++) {
                rowsNow[from] = !toEnd || (museum.ends >> from & 1) != 0 ? 1 : 0;
            }
            for (int words = 0; words < n; words++) {
                for (int from = 0; from < museum.states; from++) {
                    rowsNext[from] = waysByOneMore(from);
                }
                System.arraycopy(rowsNext, 0, rowsNow, 0, MOST_STATES);
            }
            return state < 0 || state >= MOST_STATES ? 0 : rowsNow[state];
        }

        private long waysByOneMore(int from) {
            long sum = 0;
            for (int kind = 0; kind < KINDS; kind++) {
                int target = museum.leadsBy(from, kind);
                if (target >= 0 && target < MOST_STATES) {
                    sum += museum.wordsOfKind[kind] * rowsNow[target];
                }
            }
            return sum;
        }

        private void playOut() {
            lookBehind(0);
            losing = 0;
            winning = 0;
            for (int round = 0; round <= museum.states; round++) {
                losing = allStates() & ~leadingInto(allStates(), ~winning);
                winning = leadingInto(allStates(), losing);
            }
        }

        int inTurn(int state) {
            playOut();
            if ((winning >> state & 1) != 0) {
                return WINS;
            }
            return (losing >> state & 1) != 0 ? LOSES : 0;
        }

        int winningWord(int state) {
            playOut();
            for (int word = 0; word < museum.words; word++) {
                int target = museum.leadsTo(state, word);
                if (target != NONE && (losing >> target & 1) != 0) {
                    return word;
                }
            }
            return NONE;
        }

        /** Fills what the cheapest row of each length costs from each state. */
        private void priceRows() {
            for (int state = 0; state < MOST_STATES; state++) {
                leastCosts[state] = 0;
            }
            for (int words = 1; words <= MOST_IN_SAYING; words++) {
                for (int state = 0; state < museum.states; state++) {
                    leastCosts[words * MOST_STATES + state] = cheapestBehind(state, words);
                }
            }
        }

        private int cheapestBehind(int state, int words) {
            int least = TOO_DEAR;
            for (int kind = 0; kind < KINDS; kind++) {
                if ((museum.kindsTold >> kind & 1) != 0) {
                    int target = museum.leadsBy(state, kind);
                    least = Math.min(least, museum.priceOf(kind) + leastCost(target, words - 1));
                }
            }
            return least;
        }

        private int leastCost(int state, int words) {
            if (state < 0 || state >= museum.states || words < 0 || words > MOST_IN_SAYING) {
                return TOO_DEAR;
            }
            return leastCosts[words * MOST_STATES + state];
        }

        int mostFor(int state, int much) {
            priceRows();
            return longestFor(state, much);
        }

        private int longestFor(int state, int much) {
            for (int words = MOST_IN_SAYING; words > 0; words--) {
                if (leastCost(state, words) <= much) {
                    return words;
                }
            }
            return 0;
        }

        int wordFor(int state, int much, int i) {
            priceRows();
            int words = longestFor(state, much);
            if (i >= words) {
                return NONE;
            }
            int now = state;
            int left = much;
            for (int place = 0; place < i && place < MOST_IN_SAYING; place++) {
                int word = firstFor(now, left, words - place);
                left -= museum.priceOf(museum.kindOf(word));
                now = museum.leadsTo(now, word);
            }
            return firstFor(now, left, words - i);
        }

        private int firstFor(int state, int much, int words) {
            for (int word = 0; word < museum.words; word++) {
                int price = museum.priceOf(museum.kindOf(word));
                int target = museum.leadsTo(state, word);
                if (price + leastCost(target, words - 1) <= much) {
                    return word;
                }
            }
            return NONE;
        }

        int closingKinds(Gallery gallery) {
            int inUse = 0;
            for (int saying = 0; saying < gallery.sayings; saying++) {
                int state = museum.stateOf(gallery, saying);
                if (state != NONE) {
                    inUse |= 1 << state;
                }
            }
            for (int size = 0; size <= KINDS; size++) {
                for (int kinds = 0; kinds < 1 << KINDS; kinds++) {
                    // To close a kind that no word has would be in vain.
                    if (Integer.bitCount(kinds) == size && (kinds & ~museum.kindsTold) == 0
                            && (endless(kinds) & inUse) == 0) {
                        return kinds;
                    }
                }
            }
            return 0;
        }

        /** The states that can be kept open without end, some kinds being closed. */
        private int endless(int closedKinds) {
            lookBehind(closedKinds);
            int going = allStates();
            for (int words = 0; words < museum.states; words++) {
                int on = leadingInto(going, going);
                if (on == going) {
                    return going;
                }
                going = on;
            }
            return going;
        }

        int deadEnds(int state) {
            int bits = 0;
            for (int word = 0; word < museum.words; word++) {
                int target = museum.leadsTo(state, word);
                if (target != NONE && !museum.someFollows(target)) {
                    bits |= 1 << word;
                }
            }
            return bits;
        }

        int reached(int state) {
            lookBehind(0);
            int bits = allBehind(1 << state);
            for (int words = 1; words < museum.states; words++) {
                bits |= allBehind(bits);
            }
            return bits;
        }

        int fewestWords(int from, int to) {
            lookBehind(0);
            int come = 1 << from;
            for (int words = 0; words < museum.states; words++) {
                if ((come >> to & 1) != 0) {
                    return words;
                }
                come = allBehind(come);
            }
            return NONE;
        }
    }

    /** What sayings have in common, and what breaks and mends them. */
    private static final class Rows {
        private static final int TOO_MANY = 1000;

        private final Museum museum;
        private final int[] above = new int[MOST_IN_SAYING + 1];
        private final int[] below = new int[MOST_IN_SAYING + 1];
        private final int[] fewest = new int[(MOST_IN_SAYING + 1) * MOST_STATES];
        private int sharedWords;
        private int sharedPlace;

        Rows(Museum museum) {
            this.museum = museum;
        }

        int countBroken(Gallery gallery) {
            int broken = 0;
            for (int saying = 0; saying < gallery.sayings; saying++) {
                if (museum.stateOf(gallery, saying) == NONE) {
                    broken++;
                }
            }
            return broken;
        }

        int whereBegun(Gallery gallery, int saying) {
            int bits = 0;
            for (int state = 0; state < museum.states; state++) {
                if (museum.stateFrom(gallery, saying, state, NONE) != NONE) {
                    bits |= 1 << state;
                }
            }
            return bits;
        }

        /** Row by row of the table of changes from each beginning of one to each of the other. */
        int fewestChanges(Gallery gallery, int one, int other) {
            int ones = gallery.lengthOf(one);
            int others = gallery.lengthOf(other);
            for (int j = 0; j <= others && j <= MOST_IN_SAYING; j++) {
                above[j] = j;
            }
            for (int i = 1; i <= ones; i++) {
                int word = gallery.wordAt(one, i - 1);
                below[0] = i;
                for (int j = 1; j <= others && j <= MOST_IN_SAYING; j++) {
                    int put = above[j - 1] + (word == gallery.wordAt(other, j - 1) ? 0 : 1);
                    below[j] = Math.min(put, 1 + Math.min(above[j], below[j - 1]));
                }
                System.arraycopy(below, 0, above, 0, above.length);
            }
            return others >= 0 && others <= MOST_IN_SAYING ? above[others] : 0;
        }

        int nearestTwo(Gallery gallery) {
            int best = NONE;
            int least = TOO_MANY;
            for (int one = 0; one < gallery.sayings; one++) {
                for (int other = one + 1; other < gallery.sayings; other++) {
                    int changes = fewestChanges(gallery, one, other);
                    if (changes < least) {
                        least = changes;
                        best = 10 * one + other;
                    }
                }
            }
            return best;
        }

        int countFlies(Gallery gallery, int saying) {
            if (museum.stateOf(gallery, saying) != NONE) {
                return 0;
            }
            int flies = 0;
            int length = gallery.lengthOf(saying);
            for (int i = 0; i < length; i++) {
                if (wouldHeal(gallery, saying, i)) {
                    flies++;
                }
            }
            return flies;
        }

        int firstFly(Gallery gallery, int saying) {
            if (museum.stateOf(gallery, saying) != NONE) {
                return NONE;
            }
            int length = gallery.lengthOf(saying);
            for (int i = 0; i < length; i++) {
                if (wouldHeal(gallery, saying, i)) {
                    return i;
                }
            }
            return NONE;
        }

        private boolean wouldHeal(Gallery gallery, int saying, int leftOut) {
            return museum.stateFrom(gallery, saying, gallery.beginOf(saying), leftOut) != NONE;
        }

        /** Fills, from the last place on, the fewest words to change from each place and state. */
        int fewestToMend(Gallery gallery, int saying) {
            int length = Math.min(gallery.lengthOf(saying), MOST_IN_SAYING);
            for (int place = length; place >= 0; place--) {
                for (int state = 0; state < museum.states; state++) {
                    fewest[place * MOST_STATES + state] =
                            place == length ? 0 : fewestAt(gallery, saying, place, state);
                }
            }
            int changes = fewestFrom(0, gallery.beginOf(saying));
            return changes >= TOO_MANY ? NONE : changes;
        }

        private int fewestAt(Gallery gallery, int saying, int place, int state) {
            int least = TOO_MANY;
            for (int word = 0; word < museum.words; word++) {
                least = Math.min(least, fewestBy(gallery, saying, place, state, word));
            }
            return least;
        }

        private int fewestBy(Gallery gallery, int saying, int place, int state, int word) {
            int changed = gallery.wordAt(saying, place) == word ? 0 : 1;
            return changed + fewestFrom(place + 1, museum.leadsTo(state, word));
        }

        private int fewestFrom(int place, int state) {
            if (place < 0 || place > MOST_IN_SAYING || state < 0 || state >= museum.states) {
                return TOO_MANY;
            }
            return fewest[place * MOST_STATES + state];
        }

        /** By what fewestToMend has filled; there is such a row. */
        int mendedWord(Gallery gallery, int saying, int i) {
            int state = gallery.beginOf(saying);
            for (int place = 0; place < i && place < MOST_IN_SAYING; place++) {
                state = museum.leadsTo(state, firstMending(gallery, saying, place, state));
            }
            return firstMending(gallery, saying, i, state);
        }

        private int firstMending(Gallery gallery, int saying, int place, int state) {
            int wanted = fewestFrom(place, state);
            for (int word = 0; word < museum.words; word++) {
                if (fewestBy(gallery, saying, place, state, word) == wanted) {
                    return word;
                }
            }
            return NONE;
        }

        int longestShared(Gallery gallery, int one, int other) {
            findShared(gallery, one, other);
            return sharedWords;
        }

        int whereShared(Gallery gallery, int one, int other) {
            findShared(gallery, one, other);
            return sharedPlace;
        }

        private void findShared(Gallery gallery, int one, int other) {
            int ones = gallery.lengthOf(one);
            int others = Math.min(gallery.lengthOf(other), MOST_IN_SAYING);
            sharedWords = 0;
            sharedPlace = NONE;
            Arrays.fill(above, 0);
            for (int i = 0; i < ones; i++) {
                int word = gallery.wordAt(one, i);
                // From the right, so that the place to the left is still that of the word before.
                for (int j = others; j >= 1; j--) {
                    above[j] = word == gallery.wordAt(other, j - 1) ? above[j - 1] + 1 : 0;
                    if (above[j] > sharedWords) {
                        sharedWords = above[j];
                        sharedPlace = i + 1 - above[j];
                    }
                }
            }
        }
    }
}
