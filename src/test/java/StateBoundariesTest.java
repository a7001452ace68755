/** The boundary cases of what the grammar alone says of a state (promises 16 to 22, 32 to 34). */
public final class StateBoundariesTest {
    private static final int NONE = Checks.NONE;
    private static final int MIN = Integer.MIN_VALUE;
    private static final int MAX = Integer.MAX_VALUE;
    private static final String LOOP = "state;word a 0;arc 0 0 0;";

    private StateBoundariesTest() {
    }

    public static void main(String[] args) {
        grammarAlone();
        keptOpen();
        soonestEnds();
        mustEnd();
        ways();
        waysToEnds();
        inTurn();
        winningWords();
        byCosts();
        rowsByCosts();
        closing();
        crimes();
        doors();
        far();
        Checks.end();
    }

    /** So many states, one behind the other by word a; the last one is an end, and leads back if told. */
    private static String row(int states, String back) {
        return "state;".repeat(states - 1) + "state end;" + onward(states) + back;
    }

    private static String onward(int states) {
        StringBuilder text = new StringBuilder("word a 0;");
        for (int s = 0; s + 1 < states; s++) {
            text.append("arc ").append(s).append(" 0 ").append(s + 1).append(';');
        }
        return text.toString();
    }

    private static void grammarAlone() {
        Checks.sentence(16, "(By the grammar alone, of a STATE, without LAW, guards, lengths:)");
        // The law forbids every word, a guard the last one, and the saying is full.
        OpenSaying x = Checks.of(row(3, "law 0;") + "saying 2;");
        Checks.due(2, () -> x.open(0));
        Checks.due(2, () -> x.soonest(0, NONE));
        Checks.due(2, () -> x.must(0));
        Checks.due(1, () -> x.ways(0, 2, true));
        Checks.due(2, () -> x.turn(0, 0));
        Checks.due(2, () -> x.costs(0, 60, NONE));
        Checks.due(1, () -> x.crimes(1));
        Checks.due(6, () -> x.doors(0));
        Checks.due(2, () -> x.far(0, 2));
        OpenSaying full = Checks.of(LOOP + "law 0;saying 0" + " 0".repeat(40) + ";");
        Checks.due(NONE, () -> full.open(0));
        Checks.due(40, () -> full.costs(0, 60, NONE));
        Checks.due(1, () -> full.closed());
    }

    private static void keptOpen() {
        Checks.sentence(16, "how many WORDS can follow one behind the other from it at most; none, if without end");
        OpenSaying ten = Checks.of(row(10, ""));
        Checks.dueEach(ten::open, 9, 8, 7, 6, 5, 4, 3, 2, 1, 0);
        OpenSaying round = Checks.of(row(10, "arc 9 0 0;"));
        Checks.dueEach(round::open, NONE, NONE, NONE, NONE, NONE, NONE, NONE, NONE, NONE, NONE);
        OpenSaying late = Checks.of(row(10, "arc 9 0 9;"));
        Checks.due(NONE, () -> late.open(0));
        OpenSaying one = Checks.of("state;");
        Checks.due(0, () -> one.open(0));
        OpenSaying loop = Checks.of(LOOP);
        Checks.due(NONE, () -> loop.open(0));
        // A circle by a kind of which there is no word is none.
        OpenSaying vain = Checks.of("state;arc 0 0 0;");
        Checks.due(0, () -> vain.open(0));
        // The longer way counts, and a circle that cannot be reached does not.
        OpenSaying two = Checks.of("state;state;state;state;word a 0;word b 1;arc 0 0 2;arc 0 1 1;arc 1 0 2;arc 3 0 3;");
        Checks.dueEach(two::open, 2, 1, 0, NONE);

        Checks.sentence(16, "KEPT OPEN; NONE: without end.");
        Checks.due(NONE, () -> round.open(9));
        Checks.dueNoSuch(() -> ten.open(10), () -> one.open(1), () -> one.open(-1), () -> one.open(MAX),
                () -> one.open(MIN));
    }

    private static void soonestEnds() {
        Checks.sentence(17, "the fewest WORDS by which it comes to an END (0 if it is one)");
        OpenSaying ten = Checks.of(row(10, "arc 9 0 9;"));
        Checks.dueEach(state -> ten.soonest(state, NONE), 9, 8, 7, 6, 5, 4, 3, 2, 1, 0);
        OpenSaying end = Checks.of("state end;");
        Checks.due(0, () -> end.soonest(0, NONE));
        Checks.due(NONE, () -> end.soonest(0, 0));
        // From the end 0 a word leads away for ever, from 2 one leads to it.
        OpenSaying away = Checks.of("state end;state;state;word a 0;word b 1;arc 0 0 1;arc 1 0 1;arc 2 0 1;arc 2 1 0;");
        Checks.dueEach(state -> away.soonest(state, NONE), 0, NONE, 1);
        Checks.dueEach(state -> away.soonest(state, 0), NONE, NONE, 1);

        Checks.sentence(17, "by which first row of WORDS (by their numbers); none.");
        // Both b and c lead to an end by two words; a leads there too, but later.
        OpenSaying x = Checks.of("state;state;state;state end;word a 0;word b 1;word c 2;word d 1;"
                + "arc 0 0 0;arc 0 1 1;arc 0 2 2;arc 1 2 3;arc 2 0 3;");
        Checks.dueEach(i -> x.soonest(0, i), 1, 2, NONE);
        Checks.dueEach(i -> x.soonest(2, i), 0, NONE);
        // The first word decides before the second one does.
        OpenSaying y = Checks.of("state;state;state;state end;word a 0;word b 1;word c 2;"
                + "arc 0 1 1;arc 0 2 2;arc 1 2 3;arc 2 0 3;");
        Checks.dueEach(i -> y.soonest(0, i), 1, 2, NONE);
        OpenSaying none = Checks.of(LOOP + "state end;");
        Checks.due(NONE, () -> none.soonest(0, NONE));
        Checks.due(0, () -> none.soonest(1, NONE));

        Checks.sentence(17, "how many WORDS (i NONE; NONE: none), the i-th of the row (NONE: it has not so many, there is none)");
        Checks.dueEach(i -> ten.soonest(0, i), 0, 0, 0, 0, 0, 0, 0, 0, 0, NONE, NONE);
        Checks.due(NONE, () -> ten.soonest(0, MAX));
        Checks.due(NONE, () -> ten.soonest(9, 0));
        Checks.due(0, () -> ten.soonest(8, 0));
        Checks.due(NONE, () -> ten.soonest(8, 1));
        Checks.due(NONE, () -> none.soonest(0, NONE));
        Checks.due(NONE, () -> none.soonest(0, 0));
        Checks.due(NONE, () -> none.soonest(0, MAX));

        Checks.sentence(17, "NoSuchElementException: also i is below NONE.");
        Checks.dueNoSuch(() -> ten.soonest(0, -2), () -> ten.soonest(9, -3), () -> none.soonest(0, -2),
                () -> ten.soonest(0, MIN), () -> ten.soonest(10, NONE), () -> ten.soonest(-1, 0));
    }

    private static void mustEnd() {
        Checks.sentence(18, "the fewest n (0 to 40) such that there is no row of n WORDS that can follow from it "
                + "by which it would never be at an END (n 0: it is one); none.");
        OpenSaying ten = Checks.of(row(10, "arc 9 0 0;"));
        Checks.dueEach(ten::must, 9, 8, 7, 6, 5, 4, 3, 2, 1, 0);
        // Where nothing follows there is no row of one word, whether or not it is an end.
        OpenSaying still = Checks.of("state;state end;");
        Checks.dueEach(still::must, 1, 0);
        OpenSaying dead = Checks.of("state;".repeat(10) + onward(10));
        Checks.dueEach(dead::must, 10, 9, 8, 7, 6, 5, 4, 3, 2, 1);
        // The longest way counts; a way that has been at an end may go on as it likes.
        OpenSaying x = Checks.of("state;state;state end;state;word a 0;word b 1;"
                + "arc 0 0 2;arc 0 1 1;arc 1 0 2;arc 2 0 3;arc 3 0 3;");
        Checks.dueEach(x::must, 2, 1, 0, NONE);

        Checks.sentence(18, "MUST END; NONE: none.");
        OpenSaying away = Checks.of("state;state end;word a 0;word b 1;arc 0 0 1;arc 0 1 0;");
        Checks.dueEach(away::must, NONE, 0);
        OpenSaying vain = Checks.of("state;state end;word a 0;arc 0 0 1;arc 0 1 0;");
        Checks.dueEach(vain::must, 1, 0);
        OpenSaying loop = Checks.of(LOOP);
        Checks.due(NONE, () -> loop.must(0));
        Checks.dueNoSuch(() -> loop.must(1), () -> loop.must(-1), () -> ten.must(10), () -> loop.must(MAX),
                () -> loop.must(MIN));
    }

    private static void ways() {
        Checks.sentence(19, "how many rows of n WORDS (0 to 12) can follow from it");
        OpenSaying x = Checks.of("state;state end;word a 0;word b 0;word c 1;arc 0 0 1;arc 1 1 0;");
        // Two words, then one, in turn.
        Checks.dueEach(n -> x.ways(0, n, false), 1, 2, 2, 4, 4, 8, 8, 16, 16, 32, 32, 64, 64);
        Checks.dueEach(n -> x.ways(1, n, false), 1, 1, 2, 2, 4, 4, 8, 8, 16, 16, 32, 32, 64);
        OpenSaying none = Checks.of("state;arc 0 0 0;");
        Checks.dueEach(n -> none.ways(0, n, false), 1, 0, 0);
        OpenSaying ten = Checks.of(row(10, ""));
        Checks.dueEach(n -> ten.ways(0, n, false), 1, 1, 1, 1, 1, 1, 1, 1, 1, 1, 0, 0, 0);
        Checks.dueEach(n -> ten.ways(0, n, true), 0, 0, 0, 0, 0, 0, 0, 0, 0, 1, 0, 0, 0);
        // 14 to the 12th is far more than an int.
        OpenSaying most = Checks.of("state end;word a 0;word b 0;word c 0;word d 0;word e 0;word f 0;word g 0;"
                + "word h 1;word i 1;word j 1;word k 1;word l 1;word m 1;word n 1;arc 0 0 0;arc 0 1 0;");
        Checks.due(56693912375296L, () -> most.ways(0, 12, false));
        Checks.due(56693912375296L, () -> most.ways(0, 12, true));
        Checks.due(4049565169664L, () -> most.ways(0, 11, true));
    }

    private static void waysToEnds() {
        Checks.sentence(19, "of these how many come to an END with the last (n 0: it is one)");
        OpenSaying x = Checks.of("state;state end;word a 0;word b 0;word c 1;arc 0 0 1;arc 1 1 0;");
        Checks.dueEach(n -> x.ways(0, n, true), 0, 2, 0, 4, 0, 8, 0, 16, 0, 32, 0, 64, 0);
        Checks.dueEach(n -> x.ways(1, n, true), 1, 0, 2, 0, 4, 0, 8, 0, 16, 0, 32, 0, 64);

        Checks.sentence(19, "WAYS: all (end false), those that come to an END (true).");
        Checks.due(2, () -> x.ways(0, 2, false));
        Checks.due(0, () -> x.ways(0, 2, true));
        OpenSaying ends = Checks.of("state end;word a 0;word b 0;arc 0 0 0;");
        Checks.dueEach(n -> ends.ways(0, n, true), 1, 2, 4, 8);

        Checks.sentence(19, "IllegalArgumentException (behind NoSuchElementException): n.");
        Checks.dueIllegal(() -> x.ways(0, 13, false), () -> x.ways(0, 13, true), () -> x.ways(1, -1, true),
                () -> x.ways(0, -1, false), () -> x.ways(0, MAX, true), () -> x.ways(0, MIN, true));
        Checks.dueNoSuch(() -> x.ways(2, 13, true), () -> x.ways(-1, -1, false), () -> x.ways(2, 0, true),
                () -> x.ways(MAX, MAX, true), () -> x.ways(MIN, 12, true));
    }

    private static void inTurn() {
        Checks.sentence(20, "who can't add loses: who is to add wins (1), loses (2), or neither must (0)");
        OpenSaying ten = Checks.of(row(10, ""));
        Checks.dueEach(state -> ten.turn(state, 0), 1, 2, 1, 2, 1, 2, 1, 2, 1, 2);
        OpenSaying round = Checks.of(row(10, "arc 9 0 0;"));
        Checks.dueEach(state -> round.turn(state, 0), 0, 0, 0, 0, 0, 0, 0, 0, 0, 0);
        // In 0 he can stay rather than lose; in 1 he can win rather than stay.
        OpenSaying x = Checks.of("state;state;state;word a 0;word b 1;arc 0 0 1;arc 0 1 0;arc 1 0 1;arc 1 1 2;");
        Checks.dueEach(state -> x.turn(state, 0), 0, 1, 2);
        // All that he can do lets the other one win.
        OpenSaying lost = Checks.of("state;state;state;state;word a 0;word b 1;arc 0 0 1;arc 0 1 2;arc 1 0 3;arc 2 0 3;");
        Checks.dueEach(state -> lost.turn(state, 0), 2, 1, 1, 2);
        // An end is no end of the game, and a kind without a word adds nothing.
        OpenSaying end = Checks.of("state end;word a 0;arc 0 0 0;");
        Checks.due(0, () -> end.turn(0, 0));
        OpenSaying vain = Checks.of("state;arc 0 0 0;");
        Checks.due(2, () -> vain.turn(0, 0));
    }

    private static void winningWords() {
        Checks.sentence(20, "the first WORD by which he wins; none.");
        OpenSaying x = Checks.of("state;state;state;word a 0;word b 1;word c 2;word d 1;"
                + "arc 0 0 1;arc 0 1 2;arc 0 2 2;arc 1 0 1;");
        Checks.dueEach(state -> x.turn(state, 0), 1, 0, 2);
        Checks.dueEach(state -> x.turn(state, 1), 1, NONE, NONE);
        // He wins by leading to 0, where nothing follows.
        OpenSaying back = Checks.of("state;state;word a 0;word b 1;arc 1 0 1;arc 1 1 0;");
        Checks.dueEach(state -> back.turn(state, 1), NONE, 1);
        OpenSaying ten = Checks.of(row(10, ""));
        Checks.dueEach(state -> ten.turn(state, 1), 0, NONE, 0, NONE, 0, NONE, 0, NONE, 0, NONE);

        Checks.sentence(20, "IN TURN: 1, 2, 0 (what 0), the first WORD by which he wins (1; NONE: none).");
        OpenSaying three = Checks.of("state;state;state;word a 0;arc 0 0 1;arc 2 0 2;");
        Checks.dueEach(state -> three.turn(state, 0), 1, 2, 0);
        Checks.dueEach(state -> three.turn(state, 1), 0, NONE, NONE);

        Checks.sentence(20, "NoSuchElementException: also another what.");
        Checks.dueNoSuch(() -> x.turn(0, 2), () -> x.turn(0, -1), () -> x.turn(0, MAX), () -> x.turn(0, MIN),
                () -> x.turn(3, 0), () -> x.turn(-1, 1));
    }

    private static void byCosts() {
        Checks.sentence(21, "the most WORDS that can follow from it for so much (0 to 60) or less (40 at most)");
        OpenSaying x = Checks.of(LOOP);
        Checks.dueEach(much -> x.costs(0, much, NONE), 0, 1, 2, 3);
        Checks.due(39, () -> x.costs(0, 39, NONE));
        Checks.due(40, () -> x.costs(0, 40, NONE));
        Checks.due(40, () -> x.costs(0, 41, NONE));
        Checks.due(40, () -> x.costs(0, 60, NONE));
        OpenSaying free = Checks.of(LOOP + "cost 0 0;");
        Checks.due(40, () -> free.costs(0, 0, NONE));
        Checks.due(40, () -> free.costs(0, 60, NONE));
        OpenSaying nine = Checks.of(LOOP + "cost 0 9;");
        Checks.due(0, () -> nine.costs(0, 8, NONE));
        Checks.due(1, () -> nine.costs(0, 9, NONE));
        Checks.due(5, () -> nine.costs(0, 53, NONE));
        Checks.due(6, () -> nine.costs(0, 54, NONE));
        Checks.due(6, () -> nine.costs(0, 60, NONE));
        // One dear word first, and then as many as there may be for nothing.
        OpenSaying gate = Checks.of("state;state;word a 0;word b 1;arc 0 0 1;arc 1 1 1;cost 0 9;cost 1 0;");
        Checks.due(0, () -> gate.costs(0, 8, NONE));
        Checks.due(40, () -> gate.costs(0, 9, NONE));
        OpenSaying ten = Checks.of(row(10, "") + "cost 0 0;");
        Checks.due(9, () -> ten.costs(0, 60, NONE));
        Checks.due(0, () -> ten.costs(9, 60, NONE));
        // An arc by a kind that has no word costs nothing and leads nowhere.
        OpenSaying vain = Checks.of("state;state;word a 0;arc 0 0 1;arc 1 1 1;arc 0 1 1;cost 1 0;");
        Checks.due(0, () -> vain.costs(0, 0, NONE));
        Checks.due(1, () -> vain.costs(0, 60, NONE));
        Checks.due(0, () -> vain.costs(1, 60, NONE));
    }

    private static void rowsByCosts() {
        Checks.sentence(21, "the WORDS of the first such row, its i-th.");
        // a costs 3 and b 1: with 60 to spend 10 times a and 30 times b are 40 words for 60.
        OpenSaying x = Checks.of("state;word a 0;word b 1;arc 0 0 0;arc 0 1 0;cost 0 3;");
        Checks.dueEach(i -> x.costs(0, 60, i), 0, 0, 0, 0, 0, 0, 0, 0, 0, 0, 1, 1, 1);
        // With 59 a tenth a is too dear by one; with 39 there is none to spare.
        Checks.dueEach(i -> x.costs(0, 59, i), 0, 0, 0, 0, 0, 0, 0, 0, 0, 1, 1);
        Checks.due(1, () -> x.costs(0, 39, 0));
        Checks.due(1, () -> x.costs(0, 39, 38));
        // A word that leads where less can follow is not in it, though it is the first.
        OpenSaying y = Checks.of("state;state;word a 0;word b 1;arc 0 0 1;arc 0 1 0;");
        Checks.dueEach(i -> y.costs(0, 3, i), 1, 1, 0, NONE);
        // Each word from where the one ahead of it led; c costs 2.
        OpenSaying z = Checks.of("state;state;state;word a 0;word b 1;word c 2;arc 0 2 1;arc 1 1 2;arc 2 0 0;cost 2 2;");
        Checks.dueEach(i -> z.costs(0, 7, i), 2, 1, 0, 2, 1, NONE);
        Checks.dueEach(i -> z.costs(0, 8, i), 2, 1, 0, 2, 1, 0, NONE);
        Checks.dueEach(i -> z.costs(1, 3, i), 1, 0, NONE);

        Checks.sentence(21, "how many WORDS (i NONE), the i-th of the row (NONE: it has not so many)");
        Checks.due(1, () -> x.costs(0, 60, 39));
        Checks.due(NONE, () -> x.costs(0, 60, 40));
        Checks.due(NONE, () -> x.costs(0, 60, MAX));
        Checks.due(NONE, () -> x.costs(0, 0, 0));
        Checks.due(NONE, () -> y.costs(1, 60, 0));

        Checks.sentence(21, "NoSuchElementException: also i is below NONE. IllegalArgumentException (behind that): so much.");
        Checks.dueNoSuch(() -> x.costs(0, 0, -2), () -> x.costs(0, 0, MIN), () -> x.costs(0, 61, -2),
                () -> x.costs(0, -1, -2), () -> x.costs(1, 61, 0), () -> x.costs(-1, -1, NONE),
                () -> x.costs(1, 0, NONE));
        Checks.dueIllegal(() -> x.costs(0, 61, NONE), () -> x.costs(0, -1, NONE), () -> x.costs(0, MAX, 0),
                () -> x.costs(0, MIN, 0), () -> x.costs(0, 61, MAX));
    }

    private static void closing() {
        Checks.sentence(22, "sets of KINDS, without which no SAYING that isn't BROKEN could be kept open without end: "
                + "the fewest; of as few the least as bits.");
        // Circles by 0 and 7, by 6 and 7 and by 3 and 4: 7 alone is not enough, 3 and 7 are.
        String text = "state;state;state;state;word a 0;word b 3;word c 4;word d 6;word e 7;"
                + "arc 0 0 1;arc 1 7 0;arc 0 6 2;arc 2 7 0;arc 0 3 3;arc 3 4 0;";
        OpenSaying x = Checks.of(text + "saying 0;");
        Checks.due(128 + 8, () -> x.closed());
        // Nothing is to be closed without sayings, and where nothing goes on without end.
        OpenSaying none = Checks.of(text);
        Checks.due(0, () -> none.closed());
        OpenSaying ends = Checks.of(row(10, "saying 0;saying 9;"));
        Checks.due(0, () -> ends.closed());
        // Where a saying is now counts, not where it began.
        OpenSaying now = Checks.of("state;state;word a 0;word b 1;arc 0 0 0;arc 0 1 1;arc 1 1 1;saying 0 1;saying 1;");
        Checks.due(2, () -> now.closed());
        OpenSaying on = Checks.of("state;state;word a 0;word b 1;arc 0 0 0;arc 0 1 1;saying 0 1;");
        Checks.due(0, () -> on.closed());
        on.take(0, 0);
        Checks.due(1, () -> on.closed());
        // One that is broken asks for nothing.
        OpenSaying broken = Checks.of(LOOP + "word b 1;saying 0;saying 0;");
        broken.fly(0, 0, 1);
        Checks.due(1, () -> broken.closed());
        broken.fly(1, 0, 1);
        Checks.due(0, () -> broken.closed());
        // Of two single kinds the lesser; a single greater one rather than two lesser ones.
        OpenSaying either = Checks.of("state;state;word a 5;word b 2;arc 0 5 1;arc 1 2 0;saying 0;");
        Checks.due(4, () -> either.closed());
        OpenSaying one = Checks.of("state;state;word a 0;word b 1;word c 7;arc 0 0 1;arc 0 1 1;arc 1 7 0;saying 0;");
        Checks.due(128, () -> one.closed());
        // A kind without a word opens nothing; all eight have to be closed here.
        OpenSaying vain = Checks.of("state;word a 0;arc 0 0 0;arc 0 1 0;saying 0;");
        Checks.due(1, () -> vain.closed());
        StringBuilder eight = new StringBuilder("state;saying 0;");
        for (int kind = 0; kind < 8; kind++) {
            eight.append("word " + (char) ('a' + kind) + " " + kind + ";arc 0 " + kind + " 0;");
        }
        OpenSaying all = Checks.of(eight.toString());
        Checks.due(255, () -> all.closed());
    }

    private static void crimes() {
        Checks.sentence(32, "WORDS that can FOLLOW in it, but none can behind them.");
        OpenSaying x = Checks.of("state;state;state;word a 0;word b 1;word c 1;word d 2;"
                + "arc 0 0 0;arc 0 1 1;arc 1 7 0;arc 2 2 1;");
        // b and c lead from 0 to 1, where there is an arc, but no word for it; d cannot follow in 0.
        Checks.dueEach(x::crimes, 6, 0, 8);
        OpenSaying ten = Checks.of(row(10, ""));
        Checks.dueEach(ten::crimes, 0, 0, 0, 0, 0, 0, 0, 0, 1, 0);
        OpenSaying loop = Checks.of(LOOP);
        Checks.due(0, () -> loop.crimes(0));
        OpenSaying all = Checks.of("state;state;word a 0;word b 0;word c 0;word d 0;word e 0;word f 0;word g 0;word h 0;"
                + "word i 0;word j 0;word k 0;word l 0;word m 0;word n 0;arc 0 0 1;");
        Checks.due(16383, () -> all.crimes(0));
        Checks.dueNoSuch(() -> x.crimes(3), () -> x.crimes(-1), () -> ten.crimes(10), () -> x.crimes(MAX),
                () -> x.crimes(MIN));
    }

    private static void doors() {
        Checks.sentence(33, "all to which one comes from it by one WORD or more.");
        OpenSaying ten = Checks.of(row(10, ""));
        Checks.dueEach(ten::doors, 1022, 1020, 1016, 1008, 992, 960, 896, 768, 512, 0);
        // It is one of them itself only if one comes back to it.
        OpenSaying round = Checks.of(row(10, "arc 9 0 0;"));
        Checks.dueEach(round::doors, 1023, 1023, 1023, 1023, 1023, 1023, 1023, 1023, 1023, 1023);
        OpenSaying loop = Checks.of(LOOP + "state;arc 1 0 0;");
        Checks.dueEach(loop::doors, 1, 1);
        OpenSaying vain = Checks.of("state;state;arc 0 0 1;");
        Checks.dueEach(vain::doors, 0, 0);
        Checks.dueNoSuch(() -> ten.doors(10), () -> loop.doors(2), () -> loop.doors(-1), () -> loop.doors(MAX),
                () -> loop.doors(MIN));
    }

    private static void far() {
        Checks.sentence(34, "the fewest WORDS from the one to the other (0: they are one); none.");
        OpenSaying ten = Checks.of(row(10, ""));
        Checks.dueEach(to -> ten.far(0, to), 0, 1, 2, 3, 4, 5, 6, 7, 8, 9);
        Checks.dueEach(to -> ten.far(9, to), NONE, NONE, NONE, NONE, NONE, NONE, NONE, NONE, NONE, 0);
        OpenSaying round = Checks.of(row(10, "arc 9 0 0;"));
        Checks.due(0, () -> round.far(5, 5));
        Checks.due(9, () -> round.far(5, 4));
        Checks.due(1, () -> round.far(9, 0));
        // The shorter of two ways; none by a kind that has no word.
        OpenSaying x = Checks.of("state;state;state;word a 0;word b 1;arc 0 0 1;arc 1 0 2;arc 0 1 2;arc 2 7 0;");
        Checks.due(1, () -> x.far(0, 2));
        Checks.due(NONE, () -> x.far(2, 0));

        Checks.sentence(34, "FAR; NONE: none.");
        Checks.due(NONE, () -> ten.far(1, 0));
        Checks.dueNoSuch(() -> ten.far(0, 10), () -> ten.far(10, 0), () -> x.far(3, 0), () -> x.far(0, 3),
                () -> x.far(-1, 0), () -> x.far(0, -1), () -> x.far(MAX, 0), () -> x.far(0, MIN));
    }
}
