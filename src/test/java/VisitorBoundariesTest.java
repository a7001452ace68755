/** The boundary cases of habits, of what is seen, of seasons and days (promises 23 to 26, 31, 35). */
public final class VisitorBoundariesTest {
    private static final int NONE = Checks.NONE;
    private static final int MIN = Integer.MIN_VALUE;
    private static final int MAX = Integer.MAX_VALUE;
    // Every word can follow anywhere.
    private static final String LOOP = "state;word a 0;word b 0;word c 0;arc 0 0 0;";
    // a leads to itself, b to a place where nothing follows.
    private static final String CRIME = "state;state;word a 0;word b 1;arc 0 0 0;arc 0 1 1;";

    private VisitorBoundariesTest() {
    }

    public static void main(String[] args) {
        weights();
        fractions();
        oddsRefused();
        seeing();
        forgetting();
        whoItCanBe();
        likeliest();
        asItIsNow();
        seasonTimes();
        seasonDraws();
        seasonWords();
        seasonDays();
        seasonWithout();
        seasonRefused();
        daysOfWords();
        Checks.end();
    }

    private static void dueOdds(int upper, int lower, OpenSaying x, int visitor, int saying, int word) {
        Checks.due(upper, () -> x.odds(visitor, saying, word, 0));
        Checks.due(lower, () -> x.odds(visitor, saying, word, 1));
    }

    private static void weights() {
        Checks.sentence(23, "a VISITOR adds WORDS by what his rule gives (kept to 0 to 99) "
                + "of all that MAY COME to a SAYING now.");
        // a has one letter less than b: 98 and 99, 99 and 100, -1 and 0, 0 and 1.
        String two = "state;word a 0;word bb 0;arc 0 0 0;saying 0;";
        OpenSaying x = Checks.of(two + "habit 97+letters;habit 98+letters;habit letters-2;habit letters-1;");
        dueOdds(98, 197, x, 0, 0, 0);
        dueOdds(99, 197, x, 0, 0, 1);
        dueOdds(1, 2, x, 1, 0, 0);
        dueOdds(1, 2, x, 1, 0, 1);
        dueOdds(0, 1, x, 2, 0, 0);
        dueOdds(0, 1, x, 2, 0, 1);
        dueOdds(0, 1, x, 3, 0, 0);
        dueOdds(1, 1, x, 3, 0, 1);
        // The greatest int and the least one; a negative rule takes nothing from the others.
        OpenSaying y = Checks.of(two + "habit 8192*4096*64-letters;habit 8192*4096*64;habit word*200-100;");
        dueOdds(1, 2, y, 0, 0, 0);
        dueOdds(0, 1, y, 1, 0, 0);
        dueOdds(0, 1, y, 2, 0, 0);
        dueOdds(1, 1, y, 2, 0, 1);
        // Of 14 words 99 each, one of them by 1 less.
        OpenSaying most = Checks.of("state;word a 0;word b 0;word c 0;word d 0;word e 0;word f 0;word g 0;word h 0;word i 0;"
                + "word j 0;word k 0;word l 0;word m 0;word n 0;arc 0 0 0;saying 0;habit 99;habit 99-(word=13);");
        dueOdds(1, 14, most, 0, 0, 13);
        dueOdds(98, 1385, most, 1, 0, 13);
        dueOdds(99, 1385, most, 1, 0, 0);
    }

    private static void fractions() {
        Checks.sentence(23, "ODDS: the upper part (what 0), the lower one (1).");
        OpenSaying three = Checks.of(LOOP + "saying 0;habit 1+word;");
        Checks.dueEach(what -> three.odds(0, 0, 1, what), 1, 3);

        Checks.sentence(23, "as a fraction in lowest terms (0 by 1 without a sum, or if it may not come)");
        OpenSaying x = Checks.of(LOOP + "saying 0;saying 0 2;law long=0 or word;"
                + "habit 2+word*2;habit 0;habit word=2;habit 6*(word<2);");
        dueOdds(1, 6, x, 0, 0, 0);
        dueOdds(1, 3, x, 0, 0, 1);
        dueOdds(1, 2, x, 0, 0, 2);
        // Without a sum; a word that may come, but by his rule never does; one that is all.
        dueOdds(0, 1, x, 1, 0, 0);
        dueOdds(0, 1, x, 2, 0, 0);
        dueOdds(1, 1, x, 2, 0, 2);
        // Word 0 may not come to saying 1, and counts for nothing there.
        dueOdds(0, 1, x, 0, 1, 0);
        dueOdds(2, 5, x, 0, 1, 1);
        dueOdds(0, 1, x, 3, 1, 0);
        dueOdds(1, 1, x, 3, 1, 1);
        OpenSaying crime = Checks.of(CRIME + "saying 0;saying 1;habit 1;");
        dueOdds(1, 1, crime, 0, 0, 0);
        dueOdds(0, 1, crime, 0, 0, 1);
        dueOdds(0, 1, crime, 0, 1, 0);
        crime.fly(0, 0, 1);
        crime.fly(0, 0, 1);
        dueOdds(0, 1, crime, 0, 0, 0);
        OpenSaying full = Checks.of(LOOP + "saying 0" + " 0".repeat(39) + ";habit 1;");
        dueOdds(1, 3, full, 0, 0, 0);
        full.add(0, 0);
        dueOdds(0, 1, full, 0, 0, 0);
    }

    private static void oddsRefused() {
        Checks.sentence(23, "NoSuchElementException: no such VISITOR, SAYING, WORD, what.");
        OpenSaying x = Checks.of(LOOP + "saying 0;habit 1;habit 1;");
        Checks.due(1, () -> x.odds(1, 0, 2, 0));
        for (int none : new int[] {-1, -2, 3, 4, 5, 14, 31, 32, MAX, MIN}) {
            Checks.dueNoSuch(() -> x.odds(none, 0, 0, 0), () -> x.odds(0, none, 0, 0), () -> x.odds(0, 0, none, 0),
                    () -> x.odds(0, 0, 0, none));
        }
        Checks.dueNoSuch(() -> x.odds(2, 0, 0, 0), () -> x.odds(0, 1, 0, 1), () -> x.odds(0, 0, 0, 2));
        OpenSaying four = Checks.of(LOOP + "saying 0;habit 1;habit 1;habit 1;habit 1;law word;");
        Checks.due(2, () -> four.odds(3, 0, 1, 1));
        Checks.dueNoSuch(() -> four.odds(4, 0, 1, 1));
    }

    private static void seeing() {
        Checks.sentence(24, "SEEN (at most 3)");
        OpenSaying most = Checks.of(LOOP + "saying 0;habit 1;");
        for (int i = 0; i < 10; i++) {
            int seen = Math.min(i, 3);
            Checks.due(seen, () -> most.count(7));
            most.see(0, 0);
        }
        OpenSaying x = Checks.of(LOOP + "saying 0;saying 0;habit 1;");
        Checks.sentence(24, "SEEN: how many are. NONE (STATUS 2): there are 3.");
        Checks.due(1, () -> x.see(0, 0));
        Checks.due(2, () -> x.see(1, 2));
        Checks.due(3, () -> x.see(0, 0));
        Checks.due(0, () -> x.count(11));
        Checks.due(NONE, () -> x.see(0, 0));
        Checks.due(NONE, () -> x.see(1, 1));
        Checks.due(2, () -> x.count(11));
        Checks.due(3, () -> x.count(7));
        // It is no act: there is nothing to undo, and none of them goes when one is undone.
        Checks.due(0, () -> x.count(6));
        Checks.due(NONE, () -> x.undo());
        Checks.due(0, () -> x.saying(0, NONE));
        x.day();
        x.undo();
        Checks.due(3, () -> x.count(7));

        Checks.sentence(24, "NoSuchElementException (ahead): no such SAYING, WORD.");
        for (int none : new int[] {-1, -2, 3, 5, 14, MAX, MIN}) {
            Checks.dueNoSuch(() -> x.see(none, 0), () -> x.see(0, none));
        }
        Checks.dueNoSuch(() -> x.see(2, 0));
        Checks.due(2, () -> x.count(11));
        x.forget();
        Checks.dueNoSuch(() -> x.see(2, 0), () -> x.see(0, 3));
        Checks.due(0, () -> x.count(7));
    }

    private static void forgetting() {
        Checks.sentence(25, "All that is SEEN is forgotten.");
        OpenSaying x = Checks.of(LOOP + "saying 0;habit word;habit 1;");
        x.forget();
        Checks.due(0, () -> x.count(7));
        x.see(0, 0);
        x.see(0, 0);
        x.see(0, 0);
        Checks.due(2, () -> x.who(0));
        x.forget();
        Checks.due(0, () -> x.count(7));
        Checks.due(3, () -> x.who(0));
        Checks.due(1, () -> x.see(0, 1));
        Checks.due(3, () -> x.who(0));
        Checks.due(0, () -> x.count(6));
    }

    private static void whoItCanBe() {
        Checks.sentence(26, "VISITORS by whom all SEEN can be (ODDS above 0), as bits");
        OpenSaying x = Checks.of(LOOP + "saying 0;saying 0;habit 1;habit word;habit word<2;habit 0;");
        // Nothing seen: by nobody is there anything that cannot be.
        Checks.due(15, () -> x.who(0));
        x.see(0, 0);
        Checks.due(5, () -> x.who(0));
        x.see(1, 1);
        Checks.due(5, () -> x.who(0));
        x.see(0, 2);
        Checks.due(1, () -> x.who(0));
        x.forget();
        x.see(0, 2);
        Checks.due(3, () -> x.who(0));
        // The third one counts like the first.
        x.see(0, 2);
        x.see(0, 0);
        Checks.due(1, () -> x.who(0));
        // Of each the saying to which it was added: only to one that has no word does the first one add.
        OpenSaying two = Checks.of(LOOP + "saying 0;saying 0 0;habit long=0;habit long;");
        two.see(1, 0);
        Checks.due(2, () -> two.who(0));
        two.forget();
        two.see(0, 0);
        Checks.due(1, () -> two.who(0));
        two.see(1, 0);
        Checks.due(0, () -> two.who(0));
        OpenSaying none = Checks.of(LOOP + "saying 0;");
        none.see(0, 0);
        Checks.due(0, () -> none.who(0));
        OpenSaying crime = Checks.of(CRIME + "saying 0;habit 1;");
        crime.see(0, 1);
        Checks.due(0, () -> crime.who(0));
        // Odds as small as can be are above 0 still.
        OpenSaying small = Checks.of(LOOP + "saying 0;habit 99-98*(word=0);habit 1;");
        for (int i = 0; i < 3; i++) {
            small.see(0, 0);
        }
        Checks.due(3, () -> small.who(0));
        Checks.due(1, () -> small.who(1));
    }

    private static void likeliest() {
        Checks.sentence(26, "THE LIKELIEST: that by whose ODDS, multiplied, all is likeliest");
        // Word 0 by 1/3 and 3/5, word 1 by 1/3 and 1/5: once each 1/9 and 3/25, and twice 1 1/27 and 3/125.
        OpenSaying twice = Checks.of(LOOP + "saying 0;habit 1;habit 1+2*(word=0);");
        twice.see(0, 0);
        Checks.due(1, () -> twice.who(1));
        twice.see(0, 1);
        Checks.due(1, () -> twice.who(1));
        twice.see(0, 1);
        Checks.due(0, () -> twice.who(1));

        Checks.sentence(26, "WHO IT WAS, as bits (what 0), THE LIKELIEST (1; NONE: none).");
        OpenSaying last = Checks.of(LOOP + "saying 0;habit 0;habit 0;habit 0;habit 1;");
        last.see(0, 0);
        Checks.dueEach(last::who, 8, 3);
        last.see(0, 0);
        last.see(0, 2);
        Checks.dueEach(last::who, 8, 3);
        OpenSaying nothing = Checks.of("state;word a 0;saying 0;habit 1;");
        nothing.see(0, 0);
        Checks.dueEach(nothing::who, 0, NONE);

        Checks.sentence(26, "(of like ones the least; none, if by none it can be)");
        OpenSaying x = Checks.of(LOOP + "saying 0;habit 0;habit 2;habit 3;habit letters;");
        Checks.due(0, () -> x.who(1));
        x.see(0, 0);
        Checks.due(1, () -> x.who(1));
        OpenSaying y = Checks.of(LOOP + "saying 0;habit 1;habit 1+word;habit 1+word*2;habit 2+word*4;");
        // 1/3, 3/6, 5/9 and 10/18 for word 2; 1/3, 1/6, 1/9 and 2/18 for word 0.
        y.see(0, 2);
        Checks.due(2, () -> y.who(1));
        y.see(0, 0);
        // 1/9 = 9/81, 3/36, 5/81: the first one now.
        Checks.due(0, () -> y.who(1));
        OpenSaying none = Checks.of(LOOP + "saying 0;habit word;habit 0;");
        none.see(0, 0);
        Checks.due(NONE, () -> none.who(1));
        Checks.due(0, () -> none.who(0));
        OpenSaying nobody = Checks.of(LOOP + "saying 0;");
        Checks.due(NONE, () -> nobody.who(1));
        likeliestByLittle();

        Checks.sentence(26, "NoSuchElementException: another what.");
        Checks.dueNoSuch(() -> x.who(2), () -> x.who(-1), () -> x.who(MAX), () -> x.who(MIN),
                () -> nobody.who(2), () -> new OpenSaying().who(-1));
    }

    /** Three of 14 words: the products are too great for an int, and near to one another. */
    private static void likeliestByLittle() {
        String words = "state;word a 0;word b 0;word c 0;word d 0;word e 0;word f 0;word g 0;word h 0;word i 0;"
                + "word j 0;word k 0;word l 0;word m 0;word n 0;arc 0 0 0;saying 0;";
        OpenSaying x = Checks.of(words + "habit 98;habit 99-(word=13);habit 98+(word=0);");
        for (int i = 0; i < 3; i++) {
            x.see(0, 0);
        }
        // 1/14, 99/1385 (a little more) and 99/1373 (the most).
        Checks.due(2, () -> x.who(1));
        OpenSaying y = Checks.of(words + "habit 98;habit 99-(word=13);");
        for (int i = 0; i < 3; i++) {
            y.see(0, 0);
        }
        Checks.due(1, () -> y.who(1));
    }

    private static void asItIsNow() {
        Checks.sentence(26, "that a WORD was added to a SAYING (as it is now, each for itself)");
        OpenSaying x = Checks.of(LOOP + "saying 0;habit 1;habit long;law not same;");
        x.see(0, 0);
        // The same word twice can be, for each is seen for itself, though the law lets it come but once.
        x.see(0, 0);
        Checks.due(1, () -> x.who(0));
        Checks.due(0, () -> x.who(1));
        x.add(0, 1);
        Checks.due(3, () -> x.who(0));
        x.add(0, 0);
        Checks.due(0, () -> x.who(0));
        x.undo();
        Checks.due(3, () -> x.who(0));
        OpenSaying day = Checks.of(LOOP + "saying 0;habit day=1;");
        day.see(0, 0);
        Checks.due(0, () -> day.who(0));
        day.day();
        Checks.due(1, () -> day.who(0));
    }

    /** The draws that a seed gives, by the document's words. */
    private static int[] draws(int seed, int howMany) {
        int[] draws = new int[howMany];
        long now = seed;
        for (int i = 0; i < howMany; i++) {
            now = (now * 1103515245L + 12345L) & 0xffffffffL;
            draws[i] = (int) (now / 65536 % 32768);
        }
        return draws;
    }

    private static void seasonTimes() {
        Checks.sentence(31, "A SEASON: how many were added (saying NONE), how many WORDS one has.");
        OpenSaying both = Checks.of(LOOP + "saying 0 2 2;habit 1;");
        Checks.due(5, () -> both.season(1, 5, NONE));
        Checks.due(7, () -> both.season(1, 5, 0));
        Checks.due(38, () -> both.season(1, 60, NONE));
        Checks.due(40, () -> both.season(1, 60, 0));

        Checks.sentence(31, "n times (0 to 60) a SAYING is drawn, and a VISITOR");
        OpenSaying x = Checks.of(LOOP + "saying 0;saying 0;habit 1;");
        Checks.dueEach(n -> x.season(77, n, NONE), 0, 1, 2, 3);
        Checks.due(59, () -> x.season(77, 59, NONE));
        Checks.due(60, () -> x.season(77, 60, NONE));
        // The saying is drawn first, then the visitor: of three sayings and two visitors, one of them idle.
        OpenSaying y = Checks.of(LOOP + "saying 0;saying 0;saying 0;habit 0;habit 1;");
        for (int seed : new int[] {0, 1, 2, 3, 5, -1, -77, MAX, MIN}) {
            int[] draws = draws(seed, 500);
            int at = 0;
            int[] lengths = new int[3];
            int added = 0;
            for (int n = 0; n < 60; n++) {
                int saying = draws[at] % 3;
                boolean idle = draws[at + 1] % 2 == 0;
                at += idle ? 2 : 3;
                lengths[saying] += idle || lengths[saying] == 40 ? 0 : 1;
                added += idle ? 0 : 1;
            }
            int all = added;
            Checks.due(all, () -> y.season(seed, 60, NONE));
            Checks.dueEach(saying -> y.season(seed, 60, saying), lengths[0], lengths[1], lengths[2]);
        }
    }

    private static void seasonDraws() {
        Checks.sentence(31, "A seed becomes itself times 1103515245 and 12345 (an int that wraps); "
                + "a DRAW of n is its bits 16 to 30 MOD n then.");
        // From 0: 12345, whose bits from 16 on are 0: saying 0. From 1: 1103527590, bits 16 on 16838: saying 0 of
        // two, 2 of four (16838 = 4 * 4209 + 2), 3 of five (5 * 3367 + 3).
        OpenSaying five = Checks.of(LOOP + "saying 0;".repeat(5) + "habit 1;");
        Checks.dueEach(saying -> five.season(0, 1, saying), 1, 0, 0, 0, 0);
        Checks.dueEach(saying -> five.season(1, 1, saying), 0, 0, 0, 1, 0);
        OpenSaying four = Checks.of(LOOP + "saying 0;".repeat(4) + "habit 1;");
        Checks.dueEach(saying -> four.season(1, 1, saying), 0, 0, 1, 0);
        // -1 becomes -1103502900, as an int without a sign 3191464396, bits 16 to 30 15929: 4 of five.
        Checks.dueEach(saying -> five.season(-1, 1, saying), 0, 0, 0, 0, 1);
        // The greatest int becomes 1043980748, bits 15929 again, for it differs by the highest bit alone.
        Checks.dueEach(saying -> five.season(MAX, 1, saying), 0, 0, 0, 0, 1);
        Checks.dueEach(saying -> five.season(MIN, 1, saying), 1, 0, 0, 0, 0);
    }

    private static void seasonWords() {
        Checks.sentence(31, "of what MAY COME to it a WORD, by his rule (a DRAW of the sum; nothing, and none is drawn, "
                + "if that is 0), is added");
        // a (weight 2) goes on, b (weight 3) leads where only one word follows: the draw tells which one it was.
        OpenSaying x = Checks.of("state;state;state;word a 0;word b 1;word c 2;arc 0 0 0;arc 0 1 1;arc 1 2 2;arc 2 7 0;"
                + "saying 0;habit 2+word;");
        for (int seed = 0; seed < 40; seed++) {
            int given = seed;
            int[] draws = draws(seed, 30);
            int at = 0;
            int words = 0;
            boolean open = true;
            for (int n = 0; n < 8; n++) {
                at += 2;
                if (open) {
                    // By b he would come to 1, where c may not come, for nothing follows in 2.
                    open = draws[at] % 5 < 2;
                    at++;
                    words++;
                }
            }
            int due = words;
            Checks.due(due, () -> x.season(given, 8, 0));
        }
        // No draw of a word where the sum is 0: two draws a time, so that the saying is another one's.
        OpenSaying y = Checks.of(LOOP + "saying 0;saying 0;habit day=3;");
        for (int seed = 0; seed < 20; seed++) {
            int given = seed;
            int fourth = draws(seed, 8)[6] % 2;
            Checks.due(1, () -> y.season(given, 4, fourth));
            Checks.due(0, () -> y.season(given, 4, 1 - fourth));
        }
        // A sum of 1 is enough.
        OpenSaying least = Checks.of(LOOP + "saying 0;habit word=1;");
        Checks.due(1, () -> least.season(4, 1, NONE));
        Checks.due(40, () -> least.season(4, 60, 0));
        // A full saying takes no more, and one that is broken nothing.
        OpenSaying full = Checks.of(LOOP + "saying 0" + " 0".repeat(39) + ";habit 1;");
        Checks.due(1, () -> full.season(9, 1, NONE));
        Checks.due(1, () -> full.season(9, 60, NONE));
        Checks.due(40, () -> full.season(9, 60, 0));
        OpenSaying broken = Checks.of(LOOP + "word d 1;saying 0 0;habit 1;");
        broken.fly(0, 0, 3);
        Checks.due(0, () -> broken.season(9, 60, NONE));
        Checks.due(2, () -> broken.season(9, 60, 0));
    }

    private static void seasonDays() {
        Checks.sentence(31, "then the next DAY comes: how many were added");
        OpenSaying x = Checks.of(LOOP + "saying 0;habit 1;law day=6;");
        // The day comes also where nothing was added, and behind 6 comes 0.
        Checks.dueEach(n -> x.season(3, n, NONE), 0, 0, 0, 0, 0, 0, 0, 1, 1, 1, 1, 1, 1, 1, 2);
        Checks.due(8, () -> x.season(3, 60, NONE));
        x.day();
        Checks.dueEach(n -> x.season(3, n, NONE), 0, 0, 0, 0, 0, 0, 1, 1, 1, 1, 1, 1, 1, 2);

        Checks.sentence(31, "how many WORDS a SAYING has at the end.");
        OpenSaying y = Checks.of(LOOP + "saying 0 0 1 2;saying 0;habit 1;");
        for (int n = 0; n <= 60; n++) {
            int times = n;
            long both = y.season(12, times, 0) + y.season(12, times, 1);
            Checks.due(3 + y.season(12, times, NONE), () -> both);
        }
        Checks.due(3, () -> y.season(12, 0, 0));
        Checks.due(0, () -> y.season(12, 0, 1));
    }

    private static void seasonWithout() {
        Checks.sentence(31, "(Without SAYINGS or VISITORS nothing is drawn; what is stays.)");
        OpenSaying nobody = Checks.of(LOOP + "saying 0 0;");
        Checks.due(0, () -> nobody.season(5, 60, NONE));
        Checks.due(1, () -> nobody.season(5, 60, 0));
        OpenSaying nothing = Checks.of(LOOP + "habit 1;");
        Checks.due(0, () -> nothing.season(5, 60, NONE));
        OpenSaying neither = new OpenSaying();
        Checks.due(0, () -> neither.season(5, 60, NONE));
        // A season changes nothing: not the sayings, the day, acts, the image or what is seen.
        OpenSaying x = Checks.of(LOOP + "saying 0 0;saying 0;habit 1;");
        x.day();
        x.fly(0, 1, 2);
        x.see(1, 1);
        x.image();
        x.take(0, 0);
        Checks.due(60, () -> x.season(5, 60, NONE));
        Checks.due(60, () -> x.season(5, 60, NONE));
        Checks.dueWords(x, 0, 2);
        Checks.dueWords(x, 1);
        Checks.dueEach(what -> x.count(5 + what), 1, 3, 1, 0, 0, 0, 0);
        Checks.due(2, () -> x.undo());
        Checks.dueWords(x, 0, 0, 2);
        x.season(5, 60, 0);
        Checks.due(1, () -> x.restore() ? 1 : 0);
        Checks.dueWords(x, 0, 0, 2);
        Checks.due(1, () -> x.undo());
        Checks.dueWords(x, 0, 0);
        // Nor does a text with a fault ahead of it play a part in it.
        Checks.tell(x, "state;word z 0;saying 0;saying 0;saying 0;habit 5;?");
        Checks.due(60, () -> x.season(5, 60, NONE));
    }

    private static void seasonRefused() {
        Checks.sentence(31, "NoSuchElementException: no such SAYING but NONE. IllegalArgumentException (behind that): n.");
        OpenSaying x = Checks.of(LOOP + "saying 0;habit 1;");
        Checks.dueNoSuch(() -> x.season(1, 1, 1), () -> x.season(1, 1, -2), () -> x.season(1, 1, MAX),
                () -> x.season(1, 1, MIN), () -> x.season(1, 61, 1), () -> x.season(1, -1, -2),
                () -> new OpenSaying().season(1, 61, 0));
        Checks.dueIllegal(() -> x.season(1, 61, NONE), () -> x.season(1, -1, NONE), () -> x.season(1, 61, 0),
                () -> x.season(1, MAX, 0), () -> x.season(1, MIN, 0), () -> new OpenSaying().season(1, 61, NONE));
    }

    private static void daysOfWords() {
        Checks.sentence(35, "DAYS are those on which a WORD might come to a SAYING as it is (IT MAY COME, were it that DAY).");
        OpenSaying x = Checks.of(LOOP + "saying 0;law day=0 or day=6 and word=1 or 2<day*(word=2);");
        Checks.dueEach(word -> x.days(0, word), 1, 65, 1 + 8 + 16 + 32 + 64);
        // Whatever day it is; and the day stays.
        for (int i = 0; i < 6; i++) {
            x.day();
        }
        Checks.dueEach(word -> x.days(0, word), 1, 65, 121);
        Checks.due(6, () -> x.count(5));
        OpenSaying free = Checks.of(CRIME + "saying 0;saying 1;");
        Checks.due(127, () -> free.days(0, 0));
        Checks.due(0, () -> free.days(0, 1));
        Checks.due(0, () -> free.days(1, 0));
        OpenSaying full = Checks.of(LOOP + "saying 0" + " 0".repeat(39) + ";");
        Checks.due(127, () -> full.days(0, 2));
        full.fly(0, 0, 2);
        Checks.due(0, () -> full.days(0, 2));
        free.fly(0, 0, 1);
        free.fly(0, 0, 1);
        Checks.due(0, () -> free.days(0, 0));

        Checks.sentence(35, "DAYS, as bits. NoSuchElementException: no such SAYING, WORD.");
        for (int none : new int[] {-1, -2, 5, 14, 31, 32, MAX, MIN}) {
            Checks.dueNoSuch(() -> x.days(none, 0), () -> x.days(0, none));
        }
        Checks.dueNoSuch(() -> x.days(1, 0), () -> x.days(0, 3));
    }
}
