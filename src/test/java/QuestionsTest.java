/** Promises 16 to 42: what is asked of states, sayings and visitors, and the image. */
public final class QuestionsTest {
    private static final int NONE = Checks.NONE;
    private static final String CATS = TextsAndActsTest.CATS;
    private static final String LOOP = TextsAndActsTest.LOOP;
    // 0 leads to 1 and 2, both to 3, and that to 4, where nothing follows; kind 7 has no word.
    private static final String STAIRS = "state;state;state end;state;state;word a 0;word b 1;word c 0;word d 2;"
            + "arc 0 0 1;arc 0 1 2;arc 1 1 3;arc 2 0 3;arc 3 2 4;arc 4 7 0;";

    private QuestionsTest() {
    }

    public static void main(String[] args) {
        keptOpen();
        soonestEnds();
        mustEnd();
        ways();
        inTurn();
        byCosts();
        closing();
        odds();
        whoItWas();
        begun();
        alikeAndNearest();
        culprits();
        seasons();
        crimesDoorsFar();
        daysOfWords();
        mending();
        sharing();
        aboutOftenCost();
        images();
        Checks.end();
    }

    private static void keptOpen() {
        Checks.promise(16);
        OpenSaying x = Checks.of(STAIRS);
        int[] open = {3, 2, 2, 1, 0};
        for (int s = 0; s < open.length; s++) {
            int state = s;
            Checks.due(open[s], () -> x.open(state));
        }
        OpenSaying y = Checks.of(CATS);
        Checks.due(NONE, () -> y.open(0));
        Checks.due(0, () -> y.open(3));
        Checks.dueNoSuch(() -> x.open(5), () -> x.open(-1), () -> x.open(Integer.MAX_VALUE));
        OpenSaying one = Checks.of("state;word a 0;arc 0 0 0;");
        Checks.due(NONE, () -> one.open(0));
        // The longest of all: ten states in a row.
        OpenSaying ten = Checks.of(row(10, -1));
        for (int s = 0; s < 10; s++) {
            int state = s;
            Checks.due(9 - s, () -> ten.open(state));
        }
    }

    /** So many states, one behind the other by word 0, the last one an end; one leads back from it. */
    private static String row(int states, int back) {
        StringBuilder text = new StringBuilder("state;".repeat(states - 1)).append("state end;word a 0;");
        for (int s = 0; s + 1 < states; s++) {
            text.append("arc ").append(s).append(" 0 ").append(s + 1).append(';');
        }
        if (back >= 0) {
            text.append("arc ").append(states - 1).append(" 0 ").append(back).append(';');
        }
        return text.toString();
    }

    private static void soonestEnds() {
        Checks.promise(17);
        OpenSaying x = Checks.of(CATS + "state;arc 4 2 1;arc 4 0 1;");
        Checks.due(2, () -> x.soonest(0, NONE));
        Checks.due(0, () -> x.soonest(0, 0));
        Checks.due(1, () -> x.soonest(0, 1));
        Checks.due(NONE, () -> x.soonest(0, 2));
        Checks.due(0, () -> x.soonest(2, NONE));
        Checks.due(NONE, () -> x.soonest(2, 0));
        Checks.due(NONE, () -> x.soonest(3, NONE));
        Checks.due(NONE, () -> x.soonest(3, 0));
        Checks.due(NONE, () -> x.soonest(3, Integer.MAX_VALUE));
        Checks.due(0, () -> x.soonest(4, 0));
        Checks.dueNoSuch(() -> x.soonest(0, -2), () -> x.soonest(3, -2), () -> x.soonest(5, 0),
                () -> x.soonest(-1, NONE));
        // Both words lead as soon; the first row by numbers begins with 1, for 0 leads astray.
        OpenSaying y = Checks.of("state;state;state;state end;word x 0;word y 1;word z 2;"
                + "arc 0 0 0;arc 0 2 1;arc 0 1 2;arc 1 0 3;arc 2 2 3;");
        Checks.due(2, () -> y.soonest(0, NONE));
        Checks.due(1, () -> y.soonest(0, 0));
        Checks.due(2, () -> y.soonest(0, 1));
        OpenSaying ten = Checks.of(row(10, -1));
        Checks.due(9, () -> ten.soonest(0, NONE));
        Checks.due(0, () -> ten.soonest(0, 8));
        Checks.due(NONE, () -> ten.soonest(0, 9));
    }

    private static void mustEnd() {
        Checks.promise(18);
        OpenSaying x = Checks.of(CATS);
        int[] must = {3, 2, 0, 1};
        for (int s = 0; s < must.length; s++) {
            int state = s;
            Checks.due(must[s], () -> x.must(state));
        }
        OpenSaying ten = Checks.of(row(10, 0));
        Checks.due(9, () -> ten.must(0));
        Checks.due(1, () -> ten.must(8));
        OpenSaying round = Checks.of("state;state end;word a 0;word b 1;arc 0 0 1;arc 0 1 0;");
        Checks.due(NONE, () -> round.must(0));
        OpenSaying closed = Checks.of("state;state end;word a 0;arc 0 0 1;arc 0 1 0;");
        Checks.due(1, () -> closed.must(0));
        Checks.dueNoSuch(() -> x.must(4), () -> x.must(-1));
    }

    private static void ways() {
        Checks.promise(19);
        OpenSaying x = Checks.of(CATS);
        Checks.due(1, () -> x.ways(0, 0, false));
        Checks.due(0, () -> x.ways(0, 0, true));
        Checks.due(1, () -> x.ways(2, 0, true));
        Checks.due(2, () -> x.ways(0, 1, false));
        Checks.due(4, () -> x.ways(0, 2, false));
        Checks.due(2, () -> x.ways(0, 2, true));
        Checks.due(6, () -> x.ways(2, 2, false));
        Checks.due(0, () -> x.ways(3, 1, false));
        Checks.dueIllegal(() -> x.ways(0, 13, true), () -> x.ways(0, -1, false));
        Checks.dueNoSuch(() -> x.ways(4, 0, true), () -> x.ways(-1, 13, true));
        OpenSaying most = Checks.of("state end;word a 0;word b 0;word c 0;word d 0;word e 0;word f 0;word g 0;"
                + "word h 0;word i 0;word j 0;word k 0;word l 0;word m 0;word n 0;arc 0 0 0;");
        Checks.due(56693912375296L, () -> most.ways(0, 12, false));
        Checks.due(56693912375296L, () -> most.ways(0, 12, true));
    }

    private static void inTurn() {
        Checks.promise(20);
        OpenSaying x = Checks.of(CATS);
        int[] who = {2, 1, 1, 2};
        int[] by = {NONE, 4, 3, NONE};
        for (int s = 0; s < who.length; s++) {
            int state = s;
            Checks.due(who[s], () -> x.turn(state, 0));
            Checks.due(by[s], () -> x.turn(state, 1));
        }
        OpenSaying even = Checks.of(LOOP);
        Checks.due(0, () -> even.turn(0, 0));
        Checks.due(NONE, () -> even.turn(0, 1));
        // Who is in 0 needn't lose: he stays there rather than let the other one win.
        OpenSaying stay = Checks.of("state;state;state;word a 0;word b 1;word c 0;arc 0 0 1;arc 0 1 0;arc 1 0 2;");
        Checks.due(0, () -> stay.turn(0, 0));
        Checks.due(0, () -> stay.turn(1, 1));
        OpenSaying ten = Checks.of(row(10, -1));
        Checks.due(1, () -> ten.turn(0, 0));
        Checks.due(2, () -> ten.turn(1, 0));
        Checks.dueNoSuch(() -> x.turn(0, 2), () -> x.turn(0, -1), () -> x.turn(4, 0), () -> x.turn(-1, 1));
    }

    private static void byCosts() {
        Checks.promise(21);
        OpenSaying x = Checks.of(CATS);
        Checks.due(3, () -> x.costs(0, 3, NONE));
        int[] row = {0, 1, 0, NONE};
        for (int i = 0; i < row.length; i++) {
            int place = i;
            Checks.due(row[i], () -> x.costs(0, 3, place));
        }
        Checks.due(0, () -> x.costs(0, 0, NONE));
        Checks.due(NONE, () -> x.costs(0, 0, 0));
        Checks.due(40, () -> x.costs(0, 40, NONE));
        Checks.due(40, () -> x.costs(0, 60, NONE));
        Checks.due(39, () -> x.costs(0, 39, NONE));
        // With more to spend a dearer word may come first in the row, if its number is less.
        OpenSaying y = Checks.of("state;word dear 0;word cheap 1;arc 0 0 0;arc 0 1 0;cost 0 3;");
        Checks.due(5, () -> y.costs(0, 5, NONE));
        Checks.due(1, () -> y.costs(0, 5, 0));
        Checks.due(40, () -> y.costs(0, 60, NONE));
        Checks.due(0, () -> y.costs(0, 60, 9));
        Checks.due(1, () -> y.costs(0, 60, 10));
        Checks.due(1, () -> y.costs(0, 60, 39));
        Checks.due(NONE, () -> y.costs(0, 60, 40));
        OpenSaying free = Checks.of("state;state;word free 0;word dear 1;arc 0 0 0;arc 0 1 1;cost 0 0;cost 1 9;");
        Checks.due(40, () -> free.costs(0, 0, NONE));
        Checks.due(0, () -> free.costs(1, 60, NONE));
        Checks.dueIllegal(() -> x.costs(0, 61, 0), () -> x.costs(0, -1, NONE));
        Checks.dueNoSuch(() -> x.costs(0, 61, -2), () -> x.costs(4, 0, 0), () -> x.costs(-1, 61, 0));
    }

    private static void closing() {
        Checks.promise(22);
        OpenSaying x = Checks.of(CATS + "saying 0 0 1;saying 0 2;");
        Checks.due(1, () -> x.closed());
        OpenSaying none = Checks.of(CATS + "saying 3;");
        Checks.due(0, () -> none.closed());
        OpenSaying broken = Checks.of(CATS + "saying 0;");
        broken.fly(0, 0, 4);
        Checks.due(0, () -> broken.closed());
        OpenSaying both = Checks.of(LOOP + "saying 0;");
        Checks.due(3, () -> both.closed());
        // One kind that both circles need is better than two lesser ones.
        OpenSaying one = Checks.of("state;state;word a 0;word b 1;word c 6;arc 0 0 1;arc 0 1 1;arc 1 6 0;saying 0;");
        Checks.due(64, () -> one.closed());
        OpenSaying all = Checks.of("state;word a 0;word b 1;word c 2;word d 3;word e 4;word f 5;word g 6;word h 7;"
                + "arc 0 0 0;arc 0 1 0;arc 0 2 0;arc 0 3 0;arc 0 4 0;arc 0 5 0;arc 0 6 0;arc 0 7 0;saying 0;");
        Checks.due(255, () -> all.closed());
    }

    private static void odds() {
        Checks.promise(23);
        OpenSaying x = Checks.of(LOOP + "saying 0;saying 0 0;habit letters*2;habit 0-5;habit 99*9;habit word=1;"
                + "law kind=0 or long;");
        dueOdds(1, 3, x, 0, 0, 0);
        dueOdds(2, 3, x, 0, 0, 1);
        dueOdds(0, 1, x, 0, 0, 2);
        dueOdds(1, 2, x, 0, 1, 2);
        dueOdds(0, 1, x, 1, 0, 0);
        dueOdds(1, 2, x, 2, 0, 0);
        dueOdds(1, 1, x, 3, 0, 1);
        dueOdds(0, 1, x, 3, 0, 0);
        // 99 at most: 100 counts no more than that.
        OpenSaying y = Checks.of("state;word a 0;word b 0;arc 0 0 0;saying 0;habit 99+word;habit 98+word;");
        dueOdds(1, 2, y, 0, 0, 0);
        dueOdds(98, 197, y, 1, 0, 0);
        Checks.dueNoSuch(() -> x.odds(4, 0, 0, 0), () -> x.odds(-1, 0, 0, 0), () -> x.odds(0, 2, 0, 0),
                () -> x.odds(0, -1, 0, 0), () -> x.odds(0, 0, 3, 0), () -> x.odds(0, 0, -1, 0),
                () -> x.odds(0, 0, 0, 2), () -> x.odds(0, 0, 0, -1));
    }

    private static void dueOdds(int upper, int lower, OpenSaying x, int visitor, int saying, int word) {
        Checks.due(upper, () -> x.odds(visitor, saying, word, 0));
        Checks.due(lower, () -> x.odds(visitor, saying, word, 1));
    }

    private static void whoItWas() {
        OpenSaying x = Checks.of(LOOP + "saying 0;saying 0 2;habit 1;habit letters;habit word=0;habit 2;");
        Checks.promise(26);
        Checks.due(15, () -> x.who(0));
        Checks.due(0, () -> x.who(1));
        Checks.promise(24);
        Checks.due(1, () -> x.see(0, 2));
        Checks.promise(26);
        Checks.due(11, () -> x.who(0));
        Checks.due(1, () -> x.who(1));
        x.see(0, 0);
        // 1/3 by 1/3 is more than 1/2 by 1/6; visitor 3 is like visitor 0.
        Checks.due(0, () -> x.who(1));
        Checks.promise(24);
        Checks.due(3, () -> x.see(1, 0));
        Checks.due(NONE, () -> x.see(1, 0));
        Checks.due(NONE, () -> x.see(0, 0));
        Checks.due(2, () -> x.count(11));
        Checks.dueNoSuch(() -> x.see(2, 0), () -> x.see(0, 3), () -> x.see(-1, 0), () -> x.see(0, -1));
        Checks.due(2, () -> x.count(11));
        Checks.promise(25);
        x.forget();
        Checks.due(0, () -> x.count(7));
        Checks.due(15, () -> x.who(0));
        Checks.due(1, () -> x.see(0, 0));
        Checks.promise(26);
        Checks.due(2, () -> x.who(1));
        Checks.dueNoSuch(() -> x.who(2), () -> x.who(-1));
        // By a saying as it is now, when it is asked; a word that may not come was added by none.
        OpenSaying y = Checks.of(LOOP + "saying 0;habit 1;habit 1;law not same;");
        y.see(0, 0);
        Checks.due(3, () -> y.who(0));
        y.add(0, 0);
        Checks.due(0, () -> y.who(0));
        Checks.due(NONE, () -> y.who(1));
        OpenSaying none = Checks.of(LOOP + "saying 0;");
        Checks.due(0, () -> none.who(0));
        Checks.due(NONE, () -> none.who(1));
    }

    private static void begun() {
        Checks.promise(27);
        OpenSaying x = Checks.of(CATS + "saying 0 0 1;saying 0;saying 1 1 3;");
        Checks.due(5, () -> x.begun(0));
        Checks.due(15, () -> x.begun(1));
        Checks.due(2, () -> x.begun(2));
        x.fly(1, 0, 3);
        Checks.due(4, () -> x.begun(1));
        x.fly(1, 0, 4);
        Checks.due(0, () -> x.begun(1));
        Checks.dueNoSuch(() -> x.begun(3), () -> x.begun(-1));
    }

    private static void alikeAndNearest() {
        Checks.promise(28);
        OpenSaying x = Checks.of(LOOP + "saying 0 0 1 2 0;saying 0;saying 0 1 2 0 0;saying 0 2 2;");
        Checks.due(0, () -> x.alike(0, 0));
        Checks.due(4, () -> x.alike(0, 1));
        Checks.due(4, () -> x.alike(1, 0));
        Checks.due(2, () -> x.alike(0, 2));
        Checks.due(2, () -> x.alike(2, 0));
        Checks.due(3, () -> x.alike(0, 3));
        Checks.due(3, () -> x.alike(2, 3));
        Checks.due(2, () -> x.alike(1, 3));
        Checks.dueNoSuch(() -> x.alike(0, 4), () -> x.alike(4, 0), () -> x.alike(-1, 0), () -> x.alike(0, -1));
        Checks.promise(29);
        Checks.due(2, () -> x.nearest());
        x.take(3, 0);
        Checks.due(13, () -> x.nearest());
        OpenSaying one = Checks.of(LOOP + "saying 0;");
        Checks.due(NONE, () -> one.nearest());
        OpenSaying far = Checks.of(LOOP + "saying 0" + " 0".repeat(40) + ";saying 0" + " 1".repeat(40) + ";");
        Checks.due(40, () -> far.alike(0, 1));
        Checks.due(1, () -> far.nearest());
        OpenSaying empty = Checks.of(LOOP + "saying 0;saying 0" + " 0".repeat(40) + ";");
        Checks.due(40, () -> empty.alike(0, 1));
        Checks.due(40, () -> empty.alike(1, 0));
    }

    private static void culprits() {
        Checks.promise(30);
        OpenSaying x = Checks.of(CATS + "saying 0 0 1;saying 0;");
        Checks.due(0, () -> x.culprit(0, 0));
        Checks.due(NONE, () -> x.culprit(0, 1));
        x.fly(0, 1, 4);
        Checks.due(2, () -> x.culprit(0, 0));
        Checks.due(1, () -> x.culprit(0, 1));
        x.fly(0, 0, 4);
        Checks.due(0, () -> x.culprit(0, 0));
        Checks.due(NONE, () -> x.culprit(0, 1));
        x.fly(1, 0, 4);
        Checks.due(1, () -> x.culprit(1, 0));
        Checks.due(0, () -> x.culprit(1, 1));
        Checks.dueNoSuch(() -> x.culprit(0, 2), () -> x.culprit(0, -1), () -> x.culprit(2, 0),
                () -> x.culprit(-1, 1));
    }

    /** By hand from the seed 5: the draws are 9468, 16438, 3640, 2047 .. of what is asked. */
    private static void seasons() {
        Checks.promise(31);
        String two = LOOP + "saying 0;saying 0 0;habit 1;habit word=2;";
        OpenSaying x = Checks.of(two);
        int seed = 5;
        int[] draws = new int[200];
        for (int i = 0; i < draws.length; i++) {
            seed = seed * 1103515245 + 12345;
            draws[i] = (seed >> 16) & 0x7fff;
        }
        int[] lengths = {0, 1};
        int at = 0;
        for (int n = 0; n <= 60; n++) {
            int times = n;
            Checks.due(n, () -> x.season(5, times, NONE));
            Checks.due(lengths[0], () -> x.season(5, times, 0));
            Checks.due(lengths[1], () -> x.season(5, times, 1));
            lengths[draws[at] % 2]++;
            at += 3;
        }
        // What is stays.
        Checks.due(0, () -> x.saying(0, NONE));
        Checks.due(0, () -> x.count(5));
        Checks.due(0, () -> x.count(6));
        Checks.dueNoSuch(() -> x.season(5, 1, 2), () -> x.season(5, 61, -2));
        Checks.dueIllegal(() -> x.season(5, 61, NONE), () -> x.season(5, -1, 0));
        // Without a sum no word is drawn: two draws a time then, and the days go by.
        OpenSaying law = Checks.of(LOOP + "saying 0;saying 0;habit 1;law day=2;");
        int third = draws[4] % 2;
        Checks.due(0, () -> law.season(5, 2, NONE));
        Checks.due(1, () -> law.season(5, 3, NONE));
        Checks.due(1, () -> law.season(5, 3, third));
        Checks.due(0, () -> law.season(5, 3, 1 - third));
        law.day();
        Checks.due(1, () -> law.season(5, 2, NONE));
        OpenSaying full = Checks.of(LOOP + "saying 0" + " 0".repeat(38) + ";habit 1;");
        Checks.due(2, () -> full.season(-7, 60, NONE));
        Checks.due(40, () -> full.season(-7, 60, 0));
        OpenSaying nobody = Checks.of(LOOP + "saying 0 0;");
        Checks.due(0, () -> nobody.season(5, 60, NONE));
        Checks.due(1, () -> nobody.season(5, 60, 0));
        OpenSaying nothing = Checks.of(LOOP + "habit 1;");
        Checks.due(0, () -> nothing.season(5, 60, NONE));
        // The word that is drawn: here the rule of kinds tells it by what can follow behind it.
        OpenSaying word = Checks.of("state;state;state;word a 0;word b 1;word c 2;arc 0 0 0;arc 0 1 1;arc 1 2 2;"
                + "saying 0;habit 2-word;");
        boolean goesOn = draws[2] % 3 < 2;
        Checks.due(goesOn ? 2 : 1, () -> word.season(5, 2, NONE));
        boolean goesOnTwice = goesOn && draws[5] % 3 < 2;
        Checks.due(goesOnTwice ? 3 : goesOn ? 2 : 1, () -> word.season(5, 3, NONE));
    }

    private static void crimesDoorsFar() {
        OpenSaying x = Checks.of(CATS);
        OpenSaying y = Checks.of(STAIRS);
        Checks.promise(32);
        Checks.due(16, () -> x.crimes(1));
        Checks.due(0, () -> x.crimes(0));
        Checks.due(0, () -> x.crimes(3));
        Checks.due(8, () -> y.crimes(3));
        Checks.dueNoSuch(() -> x.crimes(4), () -> x.crimes(-1));
        Checks.promise(33);
        Checks.due(15, () -> x.doors(0));
        Checks.due(0, () -> x.doors(3));
        Checks.due(30, () -> y.doors(0));
        Checks.due(24, () -> y.doors(1));
        Checks.dueNoSuch(() -> x.doors(4), () -> x.doors(-1));
        OpenSaying ten = Checks.of(row(10, 0));
        Checks.due(1023, () -> ten.doors(0));
        Checks.promise(34);
        Checks.due(2, () -> x.far(0, 2));
        Checks.due(NONE, () -> x.far(3, 0));
        Checks.due(0, () -> x.far(3, 3));
        Checks.due(2, () -> y.far(0, 3));
        Checks.due(NONE, () -> y.far(4, 0));
        Checks.due(9, () -> ten.far(0, 9));
        Checks.due(9, () -> ten.far(1, 0));
        Checks.dueNoSuch(() -> x.far(4, 0), () -> x.far(0, 4), () -> x.far(-1, 0), () -> x.far(0, -1));
    }

    private static void daysOfWords() {
        Checks.promise(35);
        OpenSaying x = Checks.of(LOOP + "saying 0;saying 0 0;law day<3 or word=1 and 4<day;");
        Checks.due(7, () -> x.days(0, 0));
        Checks.due(7 + 32 + 64, () -> x.days(0, 1));
        x.day();
        x.day();
        x.day();
        Checks.due(7, () -> x.days(0, 0));
        Checks.due(3, () -> x.count(5));
        OpenSaying y = Checks.of(CATS + "saying 0 0;");
        Checks.due(127, () -> y.days(0, 1));
        Checks.due(0, () -> y.days(0, 4));
        Checks.due(0, () -> y.days(0, 0));
        OpenSaying full = Checks.of(LOOP + "saying 0" + " 0".repeat(40) + ";");
        Checks.due(0, () -> full.days(0, 0));
        Checks.dueNoSuch(() -> x.days(2, 0), () -> x.days(-1, 0), () -> x.days(0, 3), () -> x.days(0, -1));
    }

    private static void mending() {
        Checks.promise(36);
        OpenSaying x = Checks.of(CATS + "saying 0 2 1;saying 0;saying 1 4;");
        Checks.due(0, () -> x.mend(0, NONE));
        Checks.due(2, () -> x.mend(0, 0));
        Checks.due(1, () -> x.mend(0, 1));
        x.fly(0, 1, 4);
        Checks.due(2, () -> x.mend(0, NONE));
        // Word 2 stays where it can, though 0 would be the first by its number.
        Checks.due(2, () -> x.mend(0, 0));
        Checks.due(1, () -> x.mend(0, 1));
        Checks.due(0, () -> x.mend(0, 2));
        Checks.due(0, () -> x.mend(1, NONE));
        Checks.dueNoSuch(() -> x.mend(0, 3), () -> x.mend(0, -2), () -> x.mend(1, 0), () -> x.mend(3, NONE),
                () -> x.mend(-1, 0));
        OpenSaying y = Checks.of("state;state;word a 0;word b 1;arc 0 0 1;saying 0 0;");
        y.fly(0, 1, 0);
        Checks.due(NONE, () -> y.mend(0, NONE));
        Checks.dueNoSuch(() -> y.mend(0, 0), () -> y.mend(0, 1), () -> y.mend(0, 2));
        y.take(0, 0);
        y.take(0, 0);
        y.fly(0, 0, 1);
        Checks.due(1, () -> y.mend(0, NONE));
        Checks.due(0, () -> y.mend(0, 0));
    }

    private static void sharing() {
        Checks.promise(37);
        OpenSaying x = Checks.of(LOOP + "saying 0 0 1 2 0 1 2 2;saying 0 2 0 1;saying 0 2 2 2;saying 0;saying 0 0;");
        dueShared(3, 2, x, 0, 1);
        dueShared(3, 0, x, 1, 0);
        dueShared(2, 5, x, 0, 2);
        dueShared(2, 0, x, 2, 0);
        dueShared(1, 0, x, 1, 2);
        dueShared(0, NONE, x, 2, 4);
        dueShared(0, NONE, x, 0, 3);
        dueShared(0, NONE, x, 3, 3);
        dueShared(7, 0, x, 0, 0);
        dueShared(1, 0, x, 0, 4);
        Checks.dueNoSuch(() -> x.shared(0, 1, 2), () -> x.shared(0, 1, -1), () -> x.shared(5, 0, 0),
                () -> x.shared(0, 5, 0), () -> x.shared(-1, 0, 1), () -> x.shared(0, -1, 1));
    }

    private static void dueShared(int words, int where, OpenSaying x, int one, int other) {
        Checks.due(words, () -> x.shared(one, other, 0));
        Checks.due(where, () -> x.shared(one, other, 1));
    }

    private static void aboutOftenCost() {
        OpenSaying x = Checks.of(LOOP + "word d 3;cost 1 9;cost 0 0;saying 0 0 2 0 1;saying 0;saying 0 2;");
        Checks.promise(38);
        Checks.due(1, () -> x.about(0));
        Checks.due(5, () -> x.about(2));
        Checks.due(0, () -> x.about(3));
        Checks.dueNoSuch(() -> x.about(4), () -> x.about(-1));
        Checks.promise(39);
        Checks.due(3, () -> x.often(0, 0));
        Checks.due(1, () -> x.often(0, 1));
        Checks.due(0, () -> x.often(0, 7));
        Checks.dueNoSuch(() -> x.often(0, 8), () -> x.often(0, -1), () -> x.often(3, 0), () -> x.often(-1, 0));
        Checks.promise(40);
        Checks.due(9, () -> x.cost(0));
        Checks.due(0, () -> x.cost(1));
        x.fly(1, 0, 3);
        Checks.due(1, () -> x.cost(1));
        Checks.dueNoSuch(() -> x.cost(3), () -> x.cost(-1));
    }

    private static void images() {
        Checks.promise(42);
        OpenSaying x = Checks.of(LOOP + "saying 0 0;saying 0;habit 1;");
        Checks.due(0, () -> x.restore() ? 1 : 0);
        Checks.promise(41);
        x.day();
        x.add(1, 2);
        x.see(0, 1);
        x.image();
        x.add(0, 1);
        x.take(1, 0);
        x.day();
        x.see(1, 1);
        x.fly(0, 0, 2);
        x.add(5 - 5, 0);
        x.take(0, 40);
        Checks.promise(42);
        for (int time = 0; time < 2; time++) {
            Checks.due(1, () -> x.restore() ? 1 : 0);
            Checks.due(1, () -> x.saying(0, NONE));
            Checks.due(0, () -> x.saying(0, 0));
            Checks.due(2, () -> x.saying(1, 0));
            Checks.due(1, () -> x.count(5));
            Checks.due(2, () -> x.count(6));
            Checks.due(1, () -> x.count(7));
            Checks.due(1, () -> x.count(10));
            Checks.due(1, () -> x.undo());
            Checks.due(0, () -> x.saying(1, NONE));
            Checks.due(0, () -> x.undo());
            Checks.due(0, () -> x.count(5));
            x.forget();
        }
        imagesOfActsAndSeen();
        x.image();
        x.day();
        Checks.due(1, () -> x.restore() ? 1 : 0);
        Checks.due(0, () -> x.count(5));
        Checks.due(0, () -> x.count(6));
        Checks.due(0, () -> x.count(7));
        Checks.due(1, () -> Checks.tell(x, "oops"));
        Checks.due(1, () -> x.restore() ? 1 : 0);
        Checks.due(0, () -> Checks.tell(x, "state;"));
        Checks.due(0, () -> x.restore() ? 1 : 0);
        Checks.due(0, () -> x.count(3));
    }

    /** What comes behind the image overwrites every act and all that is seen, and it all comes back. */
    private static void imagesOfActsAndSeen() {
        OpenSaying x = Checks.of(LOOP + "saying 0 0;saying 0;habit word=1;habit 1;law long<1 or word=0;");
        x.see(1, 2);
        x.fly(0, 1, 1);
        x.fly(1, 0, 2);
        x.take(1, 0);
        x.image();
        x.undo();
        x.undo();
        x.undo();
        x.forget();
        x.see(0, 1);
        x.day();
        x.take(0, 0);
        x.fly(1, 0, 1);
        Checks.due(3, () -> x.who(0));
        Checks.due(1, () -> x.restore() ? 1 : 0);
        Checks.due(2, () -> x.who(0));
        Checks.due(2, () -> x.saying(0, NONE));
        Checks.due(1, () -> x.saying(0, 1));
        Checks.due(2, () -> x.undo());
        Checks.due(2, () -> x.saying(1, 0));
        Checks.due(1, () -> x.undo());
        Checks.due(0, () -> x.saying(1, NONE));
        Checks.due(0, () -> x.undo());
        Checks.due(0, () -> x.saying(0, 0));
        Checks.due(1, () -> x.saying(0, NONE));
    }
}
