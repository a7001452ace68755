/** The boundary cases of what sayings have in common, what breaks and mends them (promises 27 to 30, 36 to 40). */
public final class SayingBoundariesTest {
    private static final int NONE = Checks.NONE;
    private static final int MIN = Integer.MIN_VALUE;
    private static final int MAX = Integer.MAX_VALUE;
    // Every word can follow anywhere.
    private static final String LOOP = "state;word a 0;word b 1;word c 2;arc 0 0 0;arc 0 1 0;arc 0 2 0;";
    // a leads from 0 to 1, b back; d leads nowhere.
    private static final String PAIR = "state;state;word a 0;word b 1;word c 0;word d 2;arc 0 0 1;arc 1 1 0;";

    private SayingBoundariesTest() {
    }

    public static void main(String[] args) {
        begun();
        alike();
        nearest();
        culprits();
        mending();
        mendedRows();
        sharing();
        about();
        often();
        cost();
        Checks.end();
    }

    private static String full(int word) {
        return "saying 0" + (" " + word).repeat(40) + ";";
    }

    private static void begun() {
        Checks.sentence(27, "of a SAYING all STATES from which its WORDS could have come, as bits (also if it is BROKEN)");
        OpenSaying x = Checks.of(PAIR + "saying 0 0 1;saying 1 1;saying 0;");
        Checks.dueEach(x::begun, 1, 2, 3);
        // It began in 0, but its words could have come from 1 alone.
        x.take(0, 0);
        Checks.due(NONE, () -> x.saying(0, -2));
        Checks.due(2, () -> x.begun(0));
        // Its words could have come from nowhere.
        x.fly(0, 0, 3);
        Checks.due(0, () -> x.begun(0));
        OpenSaying ten = Checks.of("state;".repeat(10) + "word a 0;arc 9 0 9;saying 9;saying 9" + " 0".repeat(40) + ";");
        Checks.dueEach(ten::begun, 1023, 512);
        Checks.dueNoSuch(() -> x.begun(3), () -> x.begun(-1), () -> x.begun(MAX), () -> x.begun(MIN));
    }

    private static void alike() {
        Checks.sentence(28, "of two SAYINGS the fewest WORDS to put in, take out or put in another one's place, "
                + "by which one becomes the other");
        OpenSaying x = Checks.of(LOOP + "saying 0;saying 0 0 1 2;saying 0 0 2;saying 0 1 1 2;saying 0 1 2 0;");
        Checks.dueEach(other -> x.alike(0, other), 0, 3, 2, 3, 3);
        Checks.dueEach(other -> x.alike(1, other), 3, 0, 1, 1, 2);
        Checks.dueEach(other -> x.alike(2, other), 2, 1, 0, 2, 2);
        Checks.dueEach(other -> x.alike(3, other), 3, 1, 2, 0, 2);
        Checks.dueEach(other -> x.alike(4, other), 3, 2, 2, 2, 0);
        OpenSaying y = Checks.of(LOOP + full(0) + full(1) + full(0) + "saying 0;saying 0 0;");
        Checks.dueEach(other -> y.alike(0, other), 0, 40, 0, 40, 39);
        Checks.dueEach(other -> y.alike(3, other), 40, 40, 40, 0, 1);
        Checks.due(40, () -> y.alike(1, 4));
        // A row moved by one place needs but two changes.
        y.take(2, 39);
        y.fly(2, 0, 1);
        Checks.due(1, () -> y.alike(0, 2));
        y.take(0, 0);
        y.fly(0, 39, 2);
        Checks.due(2, () -> y.alike(0, 2));
        // Also of broken ones.
        OpenSaying broken = Checks.of(PAIR + "saying 0;saying 0;");
        broken.fly(0, 0, 3);
        Checks.due(1, () -> broken.alike(0, 1));
        Checks.dueNoSuch(() -> x.alike(0, 5), () -> x.alike(5, 0), () -> x.alike(-1, 0), () -> x.alike(0, -1),
                () -> x.alike(MAX, MAX), () -> x.alike(MIN, MIN), () -> broken.alike(0, 2), () -> broken.alike(2, 2));
    }

    private static void nearest() {
        Checks.sentence(29, "THE NEAREST two (of like ones the first couple), none with fewer than two.");
        OpenSaying x = Checks.of(LOOP + "saying 0;saying 0 0 0;saying 0 1 1 1 1;saying 0 0 0 0;saying 0 1 1 1;");
        // 1 and 3 differ by one, and so do 2 and 4.
        Checks.due(13, () -> x.nearest());
        x.fly(1, 0, 2);
        Checks.due(13, () -> x.nearest());
        x.fly(1, 0, 2);
        Checks.due(24, () -> x.nearest());
        x.fly(4, 0, 1);
        Checks.due(24, () -> x.nearest());
        OpenSaying same = Checks.of(LOOP + "saying 0;".repeat(5));
        Checks.due(1, () -> same.nearest());
        same.fly(0, 0, 0);
        Checks.due(12, () -> same.nearest());
        same.fly(1, 0, 1);
        Checks.due(23, () -> same.nearest());
        same.fly(2, 0, 0);
        Checks.due(2, () -> same.nearest());
        OpenSaying last = Checks.of(LOOP + "saying 0 0;saying 0 1 1;saying 0 2 2 2;saying 0 0 1 2 0;saying 0 0 1 2 0;");
        Checks.due(34, () -> last.nearest());

        Checks.sentence(29, "10 by the lesser and the other one; NONE: there are fewer than two.");
        OpenSaying none = Checks.of(LOOP);
        Checks.due(NONE, () -> none.nearest());
        OpenSaying one = Checks.of(LOOP + "saying 0;");
        Checks.due(NONE, () -> one.nearest());
        // As far from one another as two can be, they are still the nearest.
        OpenSaying two = Checks.of(LOOP + full(0) + full(1));
        Checks.due(1, () -> two.nearest());
        OpenSaying three = Checks.of(LOOP + full(0) + full(1) + "saying 0 1;");
        Checks.due(12, () -> three.nearest());
    }

    private static void culprits() {
        Checks.sentence(30, "of a BROKEN SAYING the WORDS of which any one, left out, would leave it unbroken: "
                + "how many; the first (0 on); none.");
        // d between, at the begin and at the end: it alone breaks the saying.
        for (int place = 0; place <= 2; place++) {
            OpenSaying x = Checks.of(PAIR + "saying 0 0 1;");
            int at = place;
            x.fly(0, at, 3);
            Checks.due(1, () -> x.culprit(0, 0));
            Checks.due(at, () -> x.culprit(0, 1));
        }
        // a twice: either one may be the fly's.
        OpenSaying twice = Checks.of(PAIR + "saying 0 0 1;");
        twice.fly(0, 0, 2);
        Checks.due(2, () -> twice.culprit(0, 0));
        Checks.due(0, () -> twice.culprit(0, 1));
        // Two flies: not one of them, left out, is enough.
        twice.fly(0, 3, 3);
        Checks.due(0, () -> twice.culprit(0, 0));
        Checks.due(NONE, () -> twice.culprit(0, 1));
        // One word alone, and the last of forty.
        OpenSaying alone = Checks.of(PAIR + "saying 0;");
        alone.fly(0, 0, 3);
        Checks.due(1, () -> alone.culprit(0, 0));
        Checks.due(0, () -> alone.culprit(0, 1));
        OpenSaying full = Checks.of(LOOP + "word d 3;saying 0" + " 0".repeat(39) + ";");
        full.fly(0, 39, 3);
        Checks.due(1, () -> full.culprit(0, 0));
        Checks.due(39, () -> full.culprit(0, 1));
        // The law has no say in it.
        OpenSaying law = Checks.of(PAIR + "saying 0 0;law 0;");
        law.fly(0, 0, 3);
        Checks.due(1, () -> law.culprit(0, 0));

        Checks.sentence(30, "how many WORDS (what 0; 0 of one that isn't BROKEN), the first (1; NONE: none)");
        OpenSaying whole = Checks.of(LOOP + "saying 0 0 1;saying 0;");
        Checks.due(0, () -> whole.culprit(0, 0));
        Checks.due(NONE, () -> whole.culprit(0, 1));
        Checks.due(0, () -> whole.culprit(1, 0));
        Checks.due(NONE, () -> whole.culprit(1, 1));

        Checks.sentence(30, "NoSuchElementException: also another what.");
        Checks.dueNoSuch(() -> whole.culprit(0, 2), () -> whole.culprit(0, -1), () -> whole.culprit(0, MAX),
                () -> whole.culprit(0, MIN), () -> whole.culprit(2, 0), () -> whole.culprit(-1, 1),
                () -> twice.culprit(0, 2));
    }

    private static void mending() {
        Checks.sentence(36, "the fewest of its WORDS to put another one in the place of so that it is not BROKEN");
        OpenSaying x = Checks.of(PAIR + "saying 0 0 1;saying 0;");
        Checks.due(0, () -> x.mend(0, NONE));
        Checks.due(0, () -> x.mend(1, NONE));
        x.fly(0, 1, 3);
        // a d b: b and a have to stand in the place of d and b.
        Checks.due(2, () -> x.mend(0, NONE));
        x.fly(1, 0, 3);
        Checks.due(1, () -> x.mend(1, NONE));
        OpenSaying full = Checks.of(LOOP + "word d 3;saying 0;");
        for (int i = 0; i < 40; i++) {
            full.fly(0, 0, 3);
        }
        Checks.due(40, () -> full.mend(0, NONE));
        full.take(0, 39);
        full.fly(0, 20, 1);
        Checks.due(39, () -> full.mend(0, NONE));
        Checks.due(0, () -> full.mend(0, 0));
        Checks.due(1, () -> full.mend(0, 20));
        Checks.due(0, () -> full.mend(0, 39));
        Checks.dueNoSuch(() -> full.mend(0, 40));
    }

    private static void mendedRows() {
        Checks.sentence(36, "what each place has then, by the first such row (by their numbers); none.");
        // A word that can stay stays, though another one that could stand there has a lesser number.
        OpenSaying x = Checks.of(PAIR + "saying 0 2 1 2;");
        Checks.dueEach(i -> x.mend(0, i), 2, 1, 2);
        x.fly(0, 1, 0);
        // c a b c becomes c b a b by three; of a and c, which both could be the third, a has the lesser number.
        Checks.due(3, () -> x.mend(0, NONE));
        Checks.dueEach(i -> x.mend(0, i), 2, 1, 0, 1);
        // From 0 only a b and c d lead back to it.
        OpenSaying y = Checks.of("state;state;state;word a 0;word b 1;word c 2;word d 3;"
                + "arc 0 0 1;arc 0 2 2;arc 1 1 0;arc 2 3 0;saying 0;");
        y.fly(0, 0, 3);
        y.fly(0, 0, 1);
        // b d: by c d one change, by a b two.
        Checks.due(1, () -> y.mend(0, NONE));
        Checks.dueEach(i -> y.mend(0, i), 2, 3);
        y.take(0, 0);
        y.fly(0, 0, 3);
        y.take(0, 1);
        y.fly(0, 1, 0);
        // d a: by a b or c d two changes; the first row is a b.
        Checks.due(2, () -> y.mend(0, NONE));
        Checks.dueEach(i -> y.mend(0, i), 0, 1);

        Checks.sentence(36, "how many WORDS (i NONE; NONE: none), what the i-th place has then.");
        OpenSaying none = Checks.of("state;state;word a 0;arc 0 0 1;saying 0 0;saying 1;");
        Checks.due(0, () -> none.mend(0, NONE));
        Checks.due(0, () -> none.mend(0, 0));
        none.fly(0, 0, 0);
        Checks.due(NONE, () -> none.mend(0, NONE));
        none.fly(1, 0, 0);
        Checks.due(NONE, () -> none.mend(1, NONE));

        Checks.sentence(36, "NoSuchElementException: also there is no such place; there is no such row (i 0 on).");
        Checks.dueNoSuch(() -> none.mend(0, 0), () -> none.mend(0, 1), () -> none.mend(0, 2), () -> none.mend(0, -2),
                () -> none.mend(1, 0), () -> none.mend(2, NONE), () -> none.mend(-1, NONE), () -> x.mend(0, 4),
                () -> x.mend(0, -2), () -> x.mend(0, MAX), () -> x.mend(0, MIN), () -> x.mend(1, 0));
        OpenSaying empty = Checks.of(LOOP + "saying 0;");
        Checks.dueNoSuch(() -> empty.mend(0, 0), () -> empty.mend(0, -2));
        Checks.due(0, () -> empty.mend(0, NONE));
    }

    private static void sharing() {
        Checks.sentence(37, "the longest row of WORDS one behind the other that both have; where it begins in the first one "
                + "(of like ones the first place); none.");
        OpenSaying x = Checks.of(LOOP + "saying 0 0 1 2 0 1 0 1;saying 0 2 0 1;saying 0 1 1;saying 0;saying 0 0 1;");
        dueShared(3, 2, x, 0, 1);
        dueShared(3, 0, x, 1, 0);
        // a b stands there three times: at 0, 3 and 5.
        dueShared(2, 0, x, 0, 4);
        dueShared(2, 0, x, 4, 0);
        dueShared(2, 1, x, 1, 4);
        // One word alone: b for the first time at 1.
        dueShared(1, 1, x, 0, 2);
        dueShared(1, 0, x, 2, 0);
        dueShared(7, 0, x, 0, 0);
        // In the midst of both, and where it is asked without how long it is.
        OpenSaying midst = Checks.of(LOOP + "saying 0 2 2 0 1 0;saying 0 1 0 1 1 2;saying 0 0;");
        Checks.due(2, () -> midst.shared(0, 1, 1));
        Checks.due(0, () -> midst.shared(1, 0, 1));
        Checks.due(2, () -> midst.shared(0, 2, 1));
        Checks.due(1, () -> midst.shared(1, 2, 1));
        dueShared(2, 2, midst, 0, 1);
        dueShared(2, 0, midst, 1, 0);
        // At the very end of the first, at the very begin of the other.
        OpenSaying ends = Checks.of(LOOP + "saying 0 0 0 1 2;saying 0 1 2 1;");
        dueShared(2, 2, ends, 0, 1);
        dueShared(2, 0, ends, 1, 0);
        OpenSaying full = Checks.of(LOOP + full(0) + full(0) + "saying 0 0;" + full(1));
        dueShared(40, 0, full, 0, 1);
        dueShared(1, 0, full, 0, 2);
        dueShared(0, NONE, full, 0, 3);
        full.take(0, 0);
        full.fly(0, 0, 1);
        dueShared(39, 1, full, 0, 1);
        dueShared(39, 0, full, 1, 0);
        // No row from behind the end of one to the begin of it.
        dueShared(1, 0, full, 0, 3);

        Checks.sentence(37, "how many WORDS (what 0), where (1; NONE: none)");
        dueShared(0, NONE, x, 0, 3);
        dueShared(0, NONE, x, 3, 0);
        dueShared(0, NONE, x, 3, 3);

        Checks.sentence(37, "where (1; NONE: none). NoSuchElementException: also another what.");
        Checks.dueNoSuch(() -> x.shared(0, 1, 2), () -> x.shared(0, 1, -1), () -> x.shared(0, 1, MAX),
                () -> x.shared(0, 1, MIN), () -> x.shared(5, 0, 0), () -> x.shared(0, 5, 1), () -> x.shared(-1, 0, 0),
                () -> x.shared(0, -1, 1));
    }

    private static void dueShared(int words, int where, OpenSaying x, int one, int other) {
        Checks.due(words, () -> x.shared(one, other, 0));
        Checks.due(where, () -> x.shared(one, other, 1));
    }

    private static void about() {
        Checks.sentence(38, "ABOUT a WORD are SAYINGS that have it, as bits.");
        OpenSaying x = Checks.of(LOOP + "saying 0 0 0;saying 0;saying 0 1 0;saying 0 1;saying 0 1 1 1 0;");
        Checks.dueEach(x::about, 1 + 4 + 16, 4 + 8 + 16, 0);
        x.fly(1, 0, 2);
        Checks.due(2, () -> x.about(2));
        OpenSaying five = Checks.of(LOOP + "saying 0 2;".repeat(5));
        Checks.due(31, () -> five.about(2));
        // The last of forty words.
        OpenSaying full = Checks.of(LOOP + "saying 0" + " 0".repeat(39) + " 1;");
        Checks.due(1, () -> full.about(1));
        OpenSaying none = Checks.of(LOOP);
        Checks.due(0, () -> none.about(0));
        Checks.dueNoSuch(() -> x.about(3), () -> x.about(-1), () -> x.about(MAX), () -> x.about(MIN));
    }

    private static void often() {
        Checks.sentence(39, "How many WORDS of a KIND a SAYING has. NoSuchElementException: also no such KIND.");
        OpenSaying x = Checks.of("state;word a 0;word b 7;word c 7;arc 0 0 0;arc 0 7 0;saying 0 1 0 2 1;saying 0;saying 0"
                + " 2".repeat(40) + ";");
        Checks.dueEach(kind -> x.often(0, kind), 1, 0, 0, 0, 0, 0, 0, 3);
        Checks.dueEach(kind -> x.often(1, kind), 0, 0, 0, 0, 0, 0, 0, 0);
        Checks.dueEach(kind -> x.often(2, kind), 0, 0, 0, 0, 0, 0, 0, 40);
        for (int none : new int[] {8, -1, -2, MAX, MIN}) {
            Checks.dueNoSuch(() -> x.often(0, none), () -> x.often(none, 0));
        }
        Checks.dueNoSuch(() -> x.often(3, 0), () -> x.often(3, 8));
    }

    private static void cost() {
        Checks.sentence(40, "COST of a SAYING: what its WORDS cost by their KINDS.");
        OpenSaying x = Checks.of("state;word a 0;word b 1;word c 7;word d 7;arc 0 0 0;arc 0 1 0;arc 0 7 0;cost 0 0;cost 7 9;"
                + "saying 0;saying 0 0;saying 0 1;saying 0 2;saying 0 0 1 2 3;");
        Checks.dueEach(x::cost, 0, 0, 1, 9, 19);
        // As dear as can be; and of a broken one what its words cost all the same.
        OpenSaying full = Checks.of(LOOP + "word d 3;cost 0 9;" + full(0) + "saying 0 0;");
        Checks.due(360, () -> full.cost(0));
        full.fly(1, 0, 3);
        Checks.due(10, () -> full.cost(1));
        Checks.dueNoSuch(() -> x.cost(5), () -> x.cost(-1), () -> full.cost(2), () -> x.cost(MAX), () -> x.cost(MIN));
    }
}
