/** The boundary cases of what stands in a museum, of acts and the image (promises 5 to 15, 41, 42). */
public final class ActBoundariesTest {
    private static final int NONE = Checks.NONE;
    private static final int MIN = Integer.MIN_VALUE;
    private static final int MAX = Integer.MAX_VALUE;
    // Every word can follow anywhere.
    private static final String LOOP = "state;word a 0;word b 1;word c 1;arc 0 0 0;arc 0 1 0;";
    // a leads from 0 to 1 and b back; c leads from 1 to 2, an end, where nothing follows.
    private static final String DOOR = "state;state;state end;word a 0;word b 1;word c 2;"
            + "arc 0 0 1;arc 1 1 0;arc 1 2 2;";
    private static final String FULL = LOOP + "saying 0" + " 0".repeat(40) + ";";
    private static final String NEARLY = LOOP + "saying 0" + " 0".repeat(39) + ";";

    private ActBoundariesTest() {
    }

    public static void main(String[] args) {
        counts();
        status();
        letters();
        kinds();
        arcs();
        sayings();
        whatMayCome();
        broken();
        adding();
        flies();
        taking();
        days();
        undoing();
        keeping();
        images();
        restoring();
        manyCalls();
        Checks.end();
    }

    private static void counts() {
        Checks.sentence(5, "0 STATES, 1 WORDS, 2 ARCS, 3 SAYINGS, 4 VISITORS, 5 the DAY, 6 ACTS that are kept, 7 SEEN");
        OpenSaying x = Checks.of(LOOP + "state end;saying 0;saying 1;saying 0 1;saying 0;habit 1;habit 1;habit 0;habit 2;");
        x.day();
        x.day();
        x.fly(0, 0, 0);
        x.take(0, 0);
        x.add(0, 0);
        x.see(0, 0);
        Checks.dueEach(x::count, 2, 3, 2, 4, 4, 2, 5, 1);

        Checks.sentence(5, "8 bytes of the tape");
        Checks.due(0, () -> x.count(8));
        x.feed(1, 2, 3, 4, 5);
        Checks.due(20, () -> x.count(8));

        Checks.sentence(5, "12 how many SAYINGS are BROKEN");
        OpenSaying all = Checks.of(DOOR + "saying 0;".repeat(5));
        Checks.due(0, () -> all.count(12));
        for (int i = 0; i < 5; i++) {
            int saying = i;
            all.fly(saying, 0, 2);
            Checks.due(saying + 1, () -> all.count(12));
        }
        all.undo();
        Checks.due(4, () -> all.count(12));
        // One that has no word is not broken, not even where nothing follows.
        OpenSaying still = Checks.of(DOOR + "saying 2;");
        Checks.due(0, () -> still.count(12));

        Checks.sentence(5, "13 STATES that are an END (bits)");
        OpenSaying ends = Checks.of("state end;state;state end;");
        Checks.due(5, () -> ends.count(13));

        Checks.sentence(5, "14 how many WORDS the longest SAYING has (0 without)");
        OpenSaying none = Checks.of("state;");
        Checks.due(0, () -> none.count(14));
        OpenSaying empty = Checks.of("state;saying 0;");
        Checks.due(0, () -> empty.count(14));
        OpenSaying middle = Checks.of(LOOP + "saying 0 0;saying 0 0 0 0;saying 0 0;");
        Checks.due(3, () -> middle.count(14));
        OpenSaying full = Checks.of(FULL + "saying 0;");
        Checks.due(40, () -> full.count(14));
        OpenSaying last = Checks.of(LOOP + "saying 0;saying 0;saying 0;saying 0;saying 0 0;");
        Checks.due(1, () -> last.count(14));

        Checks.sentence(5, "NoSuchElementException: another what.");
        Checks.dueNoSuch(() -> x.count(15), () -> x.count(-1), () -> x.count(MIN), () -> x.count(MAX));
    }

    private static void status() {
        Checks.sentence(5, "9 to 11 STATUS 0 to 2");
        OpenSaying fresh = new OpenSaying();
        dueStatus(fresh, 0, 0, 0);

        Checks.sentence(5, "STATUS: how many calls were refused: 0 of TEXTS with a FAULT, 1 of ACTS, 2 of what is SEEN.");
        OpenSaying x = Checks.of(DOOR + "saying 0;");
        dueStatus(x, 0, 0, 0);
        Checks.tell(x, "?");
        dueStatus(x, 1, 0, 0);
        x.add(0, 1);
        dueStatus(x, 1, 1, 0);
        x.fly(0, 1, 0);
        dueStatus(x, 1, 2, 0);
        x.take(0, 0);
        dueStatus(x, 1, 3, 0);
        x.see(0, 0);
        x.see(0, 0);
        x.see(0, 0);
        dueStatus(x, 1, 3, 0);
        x.see(0, 0);
        dueStatus(x, 1, 3, 1);
        // What is thrown was not refused, nor is it an act to undo nothing or to restore no image.
        Checks.dueNoSuch(() -> x.add(1, 0), () -> x.add(0, 3), () -> x.fly(1, 0, 0), () -> x.fly(0, 0, 3),
                () -> x.take(1, 0), () -> x.see(1, 0), () -> x.see(0, 3));
        Checks.dueIllegal(() -> x.museum(1), () -> x.museum(-1));
        Checks.due(NONE, () -> x.undo());
        Checks.due(0, () -> x.restore() ? 1 : 0);
        dueStatus(x, 1, 3, 1);
        // An image keeps none of it.
        x.image();
        x.take(0, 0);
        x.see(0, 0);
        Checks.tell(x, "?");
        x.restore();
        dueStatus(x, 2, 4, 2);
        x.museum(0);
        dueStatus(x, 2, 4, 2);
    }

    private static void dueStatus(OpenSaying x, int texts, int acts, int seen) {
        Checks.dueEach(what -> x.count(9 + what), texts, acts, seen);
    }

    private static void letters() {
        OpenSaying x = Checks.of("word a 0;word zyxwvutsr 7;");
        Checks.sentence(6, "how many letters (i NONE), the i-th one (1 to 26)");
        Checks.due(1, () -> x.letter(0, NONE));
        Checks.due(9, () -> x.letter(1, NONE));
        Checks.due(1, () -> x.letter(0, 0));
        Checks.dueEach(i -> x.letter(1, i), 26, 25, 24, 23, 22, 21, 20, 19, 18);

        Checks.sentence(6, "NoSuchElementException: no such WORD (as everywhere), letter.");
        Checks.dueNoSuch(() -> x.letter(0, 1), () -> x.letter(1, 9), () -> x.letter(0, -2), () -> x.letter(1, MAX),
                () -> x.letter(1, MIN));
        dueNoWord(x, 2);
    }

    /** Every call that is given a word refuses one that there is not; saying 0 and visitor 0 may be there. */
    private static void dueNoWord(OpenSaying x, int words) {
        for (int none : new int[] {words, -1, -2, 14, 31, 32, MAX, MIN}) {
            if (none < 0 || none >= words) {
                Checks.dueNoSuch(() -> x.letter(none, NONE), () -> x.letter(none, 0), () -> x.kind(none),
                        () -> x.about(none), () -> x.add(0, none), () -> x.fly(0, 0, none), () -> x.see(0, none),
                        () -> x.days(0, none), () -> x.odds(0, 0, none, 0));
            }
        }
    }

    private static void dueNoSaying(OpenSaying x, int sayings) {
        for (int none : new int[] {sayings, -1, -2, 5, 31, 32, MAX, MIN}) {
            if (none < 0 || none >= sayings) {
                Checks.dueNoSuch(() -> x.saying(none, NONE), () -> x.saying(none, -2), () -> x.may(none),
                        () -> x.add(none, 0), () -> x.fly(none, 0, 0), () -> x.take(none, 0),
                        () -> x.odds(0, none, 0, 0), () -> x.see(none, 0), () -> x.begun(none),
                        () -> x.alike(none, 0), () -> x.alike(0, none), () -> x.culprit(none, 0),
                        () -> x.days(none, 0), () -> x.mend(none, NONE), () -> x.shared(none, 0, 0),
                        () -> x.shared(0, none, 0), () -> x.often(none, 0), () -> x.cost(none));
            }
        }
    }

    private static void dueNoState(OpenSaying x, int states) {
        for (int none : new int[] {states, -1, -2, 10, 31, 32, MAX, MIN}) {
            if (none < 0 || none >= states) {
                Checks.dueNoSuch(() -> x.arc(none, 0), () -> x.open(none), () -> x.soonest(none, NONE),
                        () -> x.must(none), () -> x.ways(none, 0, false), () -> x.turn(none, 0),
                        () -> x.costs(none, 0, NONE), () -> x.crimes(none), () -> x.doors(none),
                        () -> x.far(none, 0), () -> x.far(0, none));
            }
        }
    }

    private static void kinds() {
        OpenSaying x = Checks.of("word a 0;word b 7;");
        Checks.sentence(7, "The KIND of a WORD.");
        Checks.dueEach(x::kind, 0, 7);
        dueNoWord(x, 2);
        OpenSaying most = Checks.of("word a 0;word b 1;word c 2;word d 3;word e 4;word f 5;word g 6;word h 7;word i 6;"
                + "word j 5;word k 4;word l 3;word m 2;word n 1;");
        Checks.dueEach(most::kind, 0, 1, 2, 3, 4, 5, 6, 7, 6, 5, 4, 3, 2, 1);
        dueNoWord(most, 14);
    }

    private static void arcs() {
        OpenSaying x = Checks.of("state;state;arc 0 0 1;arc 0 7 0;arc 1 7 1;");
        Checks.sentence(8, "The STATE to which an ARC leads; NONE: there is none.");
        Checks.dueEach(kind -> x.arc(0, kind), 1, NONE, NONE, NONE, NONE, NONE, NONE, 0);
        Checks.dueEach(kind -> x.arc(1, kind), NONE, NONE, NONE, NONE, NONE, NONE, NONE, 1);

        Checks.sentence(8, "NoSuchElementException: no such STATE (as everywhere), KIND.");
        Checks.dueNoSuch(() -> x.arc(0, 8), () -> x.arc(0, -1), () -> x.arc(1, MAX), () -> x.arc(1, MIN));
        dueNoState(x, 2);
        OpenSaying most = Checks.of("state;".repeat(10));
        Checks.due(NONE, () -> most.arc(9, 7));
        dueNoState(most, 10);
    }

    private static void sayings() {
        OpenSaying x = Checks.of(DOOR + "saying 1 1 0;saying 2;");
        Checks.sentence(9, "how many WORDS (i NONE), the i-th one; its STATE (i -2; NONE: it is BROKEN), "
                + "the STATE in which it began (-3)");
        Checks.dueWords(x, 0, 1, 0);
        Checks.due(1, () -> x.saying(0, -2));
        Checks.due(1, () -> x.saying(0, -3));
        Checks.dueWords(x, 1);
        Checks.due(2, () -> x.saying(1, -2));
        Checks.due(2, () -> x.saying(1, -3));
        x.fly(0, 0, 0);
        Checks.due(NONE, () -> x.saying(0, -2));
        Checks.due(1, () -> x.saying(0, -3));
        OpenSaying full = Checks.of(FULL);
        Checks.due(40, () -> full.saying(0, NONE));
        Checks.due(0, () -> full.saying(0, 39));

        Checks.sentence(9, "NoSuchElementException: no such SAYING (as everywhere), WORD of it.");
        Checks.dueNoSuch(() -> x.saying(0, 3), () -> x.saying(0, -4), () -> x.saying(1, 0), () -> x.saying(0, MAX),
                () -> x.saying(0, MIN), () -> full.saying(0, 40));
        dueNoSaying(Checks.of(LOOP + "habit 1;saying 0;saying 0;"), 2);
        dueNoSaying(Checks.of(LOOP + "habit 1;saying 0;saying 0;saying 0;saying 0;saying 0;"), 5);
        dueNoWord(Checks.of(LOOP + "habit 1;saying 0;"), 3);
        dueNoState(Checks.of(LOOP), 1);
    }

    private static void whatMayCome() {
        Checks.sentence(10, "A WORD can FOLLOW in a STATE, if there is an ARC from it by its KIND. "
                + "IT MAY COME to a SAYING, if it can FOLLOW in its STATE");
        OpenSaying kinds = Checks.of("state;state;word a 0;word b 7;word c 0;arc 0 0 0;arc 1 7 1;saying 0;saying 1;");
        Checks.dueEach(kinds::may, 5, 2);

        Checks.sentence(10, "A SAYING is in a STATE: that in which it begins, and on by ARCS of its WORDS.");
        OpenSaying x = Checks.of(DOOR + "saying 0;saying 0 0;saying 0 0 1;saying 0 0 2;saying 2;");
        Checks.dueEach(saying -> x.saying(saying, -2), 0, 1, 0, 2, 2);

        Checks.sentence(10, "some WORD can FOLLOW in the STATE to which that leads");
        Checks.dueEach(x::may, 1, 2, 1, 0, 0);
        // An arc by a kind of which there is no word lets none follow.
        OpenSaying vain = Checks.of("state;state;word a 0;arc 0 0 1;arc 1 7 0;saying 0;");
        Checks.due(0, () -> vain.may(0));
        OpenSaying told = Checks.of("state;state;word a 0;word b 7;arc 0 0 1;arc 1 7 0;saying 0;");
        Checks.due(1, () -> told.may(0));
        // The law has no say in what can follow behind.
        OpenSaying law = Checks.of("state;state;word a 0;word b 7;arc 0 0 1;arc 1 7 0;saying 0;law kind<7;");
        Checks.due(1, () -> law.may(0));

        Checks.sentence(10, "the LAW holds for it (without one it does)");
        OpenSaying without = Checks.of(LOOP + "saying 0;");
        Checks.due(7, () -> without.may(0));
        OpenSaying never = Checks.of(LOOP + "saying 0;law 0;");
        Checks.due(0, () -> never.may(0));
        OpenSaying some = Checks.of(LOOP + "saying 0;law word-1;");
        Checks.due(5, () -> some.may(0));

        Checks.sentence(10, "and there are fewer than 40.");
        OpenSaying nearly = Checks.of(NEARLY);
        Checks.due(7, () -> nearly.may(0));
        OpenSaying full = Checks.of(FULL + "saying 0;");
        Checks.due(0, () -> full.may(0));
        Checks.due(7, () -> full.may(1));
        full.take(0, 0);
        Checks.due(7, () -> full.may(0));

        Checks.sentence(10, "What MAY COME to a SAYING, WORDS as bits.");
        OpenSaying most = Checks.of("state;word a 0;word b 0;word c 0;word d 0;word e 0;word f 0;word g 0;word h 0;"
                + "word i 0;word j 0;word k 0;word l 0;word m 0;word n 0;arc 0 0 0;saying 0;");
        Checks.due(16383, () -> most.may(0));
        dueNoSaying(Checks.of(LOOP + "habit 1;"), 0);
    }

    private static void broken() {
        Checks.sentence(10, "A SAYING is BROKEN, if by some WORD of it there is no ARC from where it is then; "
                + "its STATE is none then, and nothing MAY COME.");
        for (int place = 0; place <= 2; place++) {
            OpenSaying x = Checks.of(DOOR + "saying 0 0 1;saying 0;");
            int at = place;
            // b breaks it at its begin and at its end, and a between the two.
            Checks.due(3, () -> x.fly(0, at, at == 1 ? 0 : 1));
            Checks.due(NONE, () -> x.saying(0, -2));
            Checks.due(0, () -> x.may(0));
            Checks.due(1, () -> x.count(12));
            Checks.due(NONE, () -> x.add(0, 0));
            Checks.due(0, () -> x.days(0, 0));
            Checks.due(1, () -> x.may(1));
        }
        // A word of a kind that leads on is put in, and the saying stays whole though no guard let it in.
        OpenSaying whole = Checks.of(DOOR + "saying 0 0;");
        Checks.due(2, () -> whole.fly(0, 1, 2));
        Checks.due(2, () -> whole.saying(0, -2));
        Checks.due(0, () -> whole.count(12));
    }

    private static void adding() {
        OpenSaying x = Checks.of(DOOR + "saying 0;law not same;");
        Checks.sentence(11, "An ACT: a WORD is ADDED: how many there are.");
        Checks.due(1, () -> x.add(0, 0));
        Checks.due(2, () -> x.add(0, 1));
        Checks.dueWords(x, 0, 0, 1);
        Checks.due(2, () -> x.count(6));
        OpenSaying nearly = Checks.of(NEARLY);
        Checks.due(40, () -> nearly.add(0, 2));
        Checks.due(2, () -> nearly.saying(0, 39));

        Checks.sentence(11, "NONE (STATUS 1): it may not come.");
        // By the law, by no arc, by the guards, being full and being broken.
        Checks.due(NONE, () -> x.add(0, 0));
        Checks.due(NONE, () -> x.add(0, 1));
        Checks.due(2, () -> x.count(10));
        Checks.due(2, () -> x.count(6));
        Checks.dueWords(x, 0, 0, 1);
        Checks.due(NONE, () -> nearly.add(0, 2));
        Checks.due(40, () -> nearly.saying(0, NONE));
        Checks.due(1, () -> nearly.count(6));
        OpenSaying crime = Checks.of(DOOR + "saying 0 0;");
        Checks.due(NONE, () -> crime.add(0, 2));
        crime.fly(0, 0, 1);
        Checks.due(NONE, () -> crime.add(0, 1));
        Checks.due(2, () -> crime.count(10));
        dueNoWord(x, 3);
        dueNoSaying(x, 1);
        Checks.due(2, () -> x.count(10));
        Checks.due(2, () -> x.count(6));
    }

    private static void flies() {
        Checks.sentence(12, "An ACT: a FLY: how many WORDS there are.");
        OpenSaying fly = Checks.of(LOOP + "saying 0;");
        for (int i = 1; i <= 40; i++) {
            int words = i;
            Checks.due(words, () -> fly.fly(0, 0, 1));
            Checks.due(words, () -> fly.count(6));
        }

        Checks.sentence(12, "a FLY puts a WORD into a SAYING, ahead of its i-th WORD or behind the last, "
                + "though it may not be there (if there are fewer than 40)");
        OpenSaying x = Checks.of(DOOR + "saying 0 0 1;saying 0;law 0;");
        Checks.due(3, () -> x.fly(0, 0, 2));
        Checks.dueWords(x, 0, 2, 0, 1);
        Checks.due(4, () -> x.fly(0, 3, 0));
        Checks.dueWords(x, 0, 2, 0, 1, 0);
        Checks.due(5, () -> x.fly(0, 1, 1));
        Checks.dueWords(x, 0, 2, 1, 0, 1, 0);
        Checks.due(1, () -> x.fly(1, 0, 1));
        Checks.dueWords(x, 1, 1);
        Checks.due(4, () -> x.count(6));

        Checks.sentence(12, "NONE (STATUS 1): there are 40, i is not 0 to how many there are.");
        for (int none : new int[] {6, 7, -1, -2, -3, 40, MAX, MIN}) {
            Checks.due(NONE, () -> x.fly(0, none, 0));
        }
        Checks.due(8, () -> x.count(10));
        Checks.due(4, () -> x.count(6));
        Checks.dueWords(x, 0, 2, 1, 0, 1, 0);
        OpenSaying nearly = Checks.of(NEARLY + "saying 0 2;");
        Checks.due(NONE, () -> nearly.fly(0, 40, 1));
        Checks.due(40, () -> nearly.fly(0, 39, 1));
        Checks.due(1, () -> nearly.saying(0, 39));
        Checks.due(NONE, () -> nearly.fly(0, 40, 1));
        Checks.due(NONE, () -> nearly.fly(0, 0, 1));
        Checks.due(0, () -> nearly.saying(0, 0));
        Checks.due(3, () -> nearly.count(10));
        Checks.dueWords(nearly, 1, 2);
        dueNoWord(nearly, 3);
        dueNoSaying(nearly, 2);
        Checks.dueNoSuch(() -> nearly.fly(0, 41, 3), () -> nearly.fly(2, 41, 0));
        Checks.due(3, () -> nearly.count(10));
    }

    private static void taking() {
        Checks.sentence(13, "An ACT: the i-th WORD is TAKEN OUT: which it was.");
        OpenSaying x = Checks.of(LOOP + "saying 0 0 1 2 1;saying 0 2;");
        Checks.due(1, () -> x.take(0, 3));
        Checks.dueWords(x, 0, 0, 1, 2);
        Checks.due(0, () -> x.take(0, 0));
        Checks.dueWords(x, 0, 1, 2);
        Checks.due(1, () -> x.take(0, 0));
        Checks.due(2, () -> x.take(0, 0));
        Checks.dueWords(x, 0);
        Checks.dueWords(x, 1, 2);
        Checks.due(4, () -> x.count(6));
        OpenSaying full = Checks.of(FULL + "saying 0 1;".repeat(3) + "saying 0 2 1;");
        Checks.due(0, () -> full.take(0, 39));
        Checks.due(39, () -> full.saying(0, NONE));
        Checks.due(1, () -> full.take(4, 1));
        Checks.dueWords(full, 4, 2);

        Checks.sentence(13, "NONE (STATUS 1): there is none.");
        for (int none : new int[] {0, 1, -1, -2, -3, 40, MAX, MIN}) {
            Checks.due(NONE, () -> x.take(0, none));
        }
        Checks.due(NONE, () -> x.take(1, 1));
        Checks.due(NONE, () -> x.take(1, -1));
        Checks.due(10, () -> x.count(10));
        Checks.due(4, () -> x.count(6));
        Checks.dueWords(x, 1, 2);
        dueNoSaying(x, 2);
        Checks.due(10, () -> x.count(10));
    }

    private static void days() {
        Checks.sentence(14, "An ACT: the next DAY: which it is.");
        OpenSaying fresh = new OpenSaying();
        Checks.due(1, () -> fresh.day());
        Checks.due(1, () -> fresh.count(6));
        Checks.due(0, () -> fresh.undo());
        Checks.due(0, () -> fresh.count(5));

        Checks.sentence(14, "the next DAY comes (behind 6 comes 0)");
        OpenSaying x = new OpenSaying();
        for (int i = 1; i <= 15; i++) {
            int day = i % 7;
            Checks.due(day, () -> x.day());
            Checks.due(day, () -> x.count(5));
        }
        Checks.due(15, () -> x.count(6));
        // Back over the same boundary.
        for (int i = 14; i >= 0; i--) {
            int day = i % 7;
            x.undo();
            Checks.due(day, () -> x.count(5));
        }
    }

    private static void undoing() {
        Checks.sentence(15, "They are UNDONE, the last one first.");
        OpenSaying x = Checks.of(LOOP + "saying 0 0 1;saying 0;");
        x.fly(0, 0, 2);
        x.take(0, 2);
        x.day();
        x.add(1, 1);
        x.take(1, 0);
        Checks.due(4, () -> x.undo());
        Checks.dueWords(x, 1, 1);
        Checks.due(3, () -> x.undo());
        Checks.dueWords(x, 1);
        Checks.due(1, () -> x.count(5));
        Checks.due(2, () -> x.undo());
        Checks.due(0, () -> x.count(5));
        Checks.dueWords(x, 0, 2, 0);
        Checks.due(1, () -> x.undo());
        Checks.dueWords(x, 0, 2, 0, 1);
        Checks.due(0, () -> x.undo());
        Checks.dueWords(x, 0, 0, 1);

        Checks.sentence(15, "The last ACT is UNDONE: how many are left. NONE: there is none.");
        Checks.due(NONE, () -> x.undo());
        Checks.due(NONE, () -> x.undo());
        Checks.due(0, () -> x.count(6));
        Checks.due(0, () -> x.count(10));
        Checks.dueWords(x, 0, 0, 1);
        // What was refused is not undone in place of what was done.
        x.day();
        x.take(0, 2);
        x.fly(0, 3, 0);
        Checks.due(0, () -> x.undo());
        Checks.due(0, () -> x.count(5));
        // A full saying gets its 40th word back.
        OpenSaying full = Checks.of(FULL);
        full.fly(0, 0, 1);
        full.take(0, 39);
        full.fly(0, 0, 1);
        full.take(0, 20);
        Checks.due(2, () -> full.undo());
        Checks.due(40, () -> full.saying(0, NONE));
        Checks.due(1, () -> full.undo());
        Checks.due(0, () -> full.undo());
        Checks.due(40, () -> full.saying(0, NONE));
        Checks.dueEach(i -> full.saying(0, i), new long[40]);
    }

    private static void keeping() {
        Checks.sentence(15, "ACTS (at most 40 are kept, the latest ones)");
        OpenSaying forty = Checks.of(LOOP + "saying 0 0 1;");
        forty.take(0, 0);
        for (int i = 0; i < 39; i++) {
            forty.day();
        }
        Checks.due(40, () -> forty.count(6));
        for (int i = 39; i >= 0; i--) {
            int left = i;
            Checks.due(left, () -> forty.undo());
        }
        Checks.dueWords(forty, 0, 0, 1);
        // One more, and the first one is kept no longer: it stays done.
        OpenSaying more = Checks.of(LOOP + "saying 0 0 1;");
        more.take(0, 0);
        for (int i = 0; i < 40; i++) {
            more.day();
        }
        Checks.due(40, () -> more.count(6));
        Checks.due(5, () -> more.count(5));
        for (int i = 39; i >= 0; i--) {
            int left = i;
            Checks.due(left, () -> more.undo());
        }
        Checks.due(NONE, () -> more.undo());
        Checks.dueWords(more, 0, 1);
        Checks.due(0, () -> more.count(5));
        // Every one of the latest forty, when far more were done; refused ones push none out.
        OpenSaying many = Checks.of(LOOP + "saying 0;saying 0;");
        for (int i = 0; i < 30; i++) {
            many.add(0, i % 3);
            many.fly(1, 0, i % 3);
            many.take(0, 40);
        }
        Checks.due(40, () -> many.count(6));
        for (int i = 0; i < 40; i++) {
            many.undo();
        }
        Checks.due(NONE, () -> many.undo());
        Checks.dueWords(many, 0, 0, 1, 2, 0, 1, 2, 0, 1, 2, 0);
        Checks.dueWords(many, 1, 0, 2, 1, 0, 2, 1, 0, 2, 1, 0);
        keepingEachAsItWas();
    }

    /** Of 43 acts the first three stay done; saying, place and word of each of the others are kept. */
    private static void keepingEachAsItWas() {
        OpenSaying x = Checks.of(LOOP + "saying 0 0 1 2 0 1 2;saying 0 2 2 1 1 0 0;saying 0 1 2;");
        x.take(0, 5);
        x.take(1, 0);
        x.fly(2, 0, 0);
        x.take(1, 1);
        x.take(0, 1);
        x.take(0, 1);
        x.fly(2, 1, 2);
        x.take(1, 0);
        for (int i = 0; i < 34; i++) {
            x.day();
        }
        x.take(2, 0);
        Checks.due(40, () -> x.count(6));
        for (int i = 0; i < 40; i++) {
            x.undo();
        }
        Checks.due(NONE, () -> x.undo());
        Checks.dueWords(x, 0, 0, 1, 2, 0, 1);
        Checks.dueWords(x, 1, 2, 1, 1, 0, 0);
        Checks.dueWords(x, 2, 0, 1, 2);
        Checks.due(0, () -> x.count(5));
    }

    private static void images() {
        Checks.sentence(41, "SAYINGS, the DAY, ACTS and what is SEEN are kept as an image");
        OpenSaying x = Checks.of(LOOP + "saying 0 0 1;saying 0;habit word=1;habit word=2;");
        x.day();
        x.fly(0, 1, 2);
        x.see(0, 1);
        x.image();
        // The image is kept, and all goes on as it was.
        Checks.dueWords(x, 0, 0, 2, 1);
        Checks.due(2, () -> x.count(6));
        x.undo();
        x.undo();
        x.take(0, 0);
        x.add(1, 2);
        x.forget();
        x.see(1, 2);
        x.see(1, 2);
        Checks.due(1, () -> x.restore() ? 1 : 0);
        Checks.dueWords(x, 0, 0, 2, 1);
        Checks.dueWords(x, 1);
        Checks.dueEach(what -> x.count(5 + what), 1, 2, 1);
        Checks.due(1, () -> x.who(0));
        Checks.due(1, () -> x.undo());
        Checks.dueWords(x, 0, 0, 1);
        Checks.due(0, () -> x.undo());
        Checks.due(0, () -> x.count(5));
        Checks.due(NONE, () -> x.undo());

        // Which words were taken out and which sayings were seen is kept as well.
        OpenSaying taken = Checks.of(LOOP + "saying 0 0 1;saying 0;habit long;");
        taken.take(0, 0);
        taken.see(1, 0);
        taken.image();
        taken.undo();
        taken.take(0, 1);
        taken.forget();
        taken.see(0, 0);
        Checks.due(1, () -> taken.who(0));
        taken.restore();
        Checks.due(0, () -> taken.who(0));
        taken.undo();
        Checks.dueWords(taken, 0, 0, 1);

        Checks.sentence(41, "in place of another one");
        x.forget();
        x.image();
        x.take(0, 0);
        x.see(0, 0);
        x.image();
        x.take(0, 0);
        x.forget();
        Checks.due(1, () -> x.restore() ? 1 : 0);
        Checks.dueWords(x, 0, 1);
        Checks.due(1, () -> x.count(6));
        Checks.due(1, () -> x.count(7));
        // Nothing told, nothing done: that too is an image.
        OpenSaying none = new OpenSaying();
        none.image();
        none.day();
        Checks.due(1, () -> none.restore() ? 1 : 0);
        Checks.due(0, () -> none.count(5));
        Checks.due(NONE, () -> none.undo());
        // Forty acts and three seen are kept as well.
        OpenSaying full = Checks.of(LOOP + "saying 0 0;saying 0;saying 0;saying 0;saying 0 2;");
        for (int i = 0; i < 40; i++) {
            full.add(4, i % 3);
        }
        full.add(0, 1);
        full.see(4, 2);
        full.see(4, 2);
        full.see(4, 2);
        full.image();
        for (int i = 0; i < 40; i++) {
            full.take(4, 0);
        }
        full.forget();
        full.restore();
        Checks.dueEach(what -> full.count(5 + what), 0, 40, 3);
        Checks.due(40, () -> full.saying(4, NONE));
        for (int i = 39; i >= 0; i--) {
            int left = i;
            Checks.due(left, () -> full.undo());
        }
        Checks.dueWords(full, 4, 2);
        Checks.dueWords(full, 0, 0);
    }

    private static void manyCalls() {
        Checks.sentence(42, "An object is used for at most 512 calls after it has been made");
        OpenSaying x = new OpenSaying();
        // Four of feed, one of museum, 505 of others: the two behind them are the 511th and the 512th.
        Checks.tell(x, LOOP + "saying 0;saying 0;habit 1;");
        for (int i = 0; i < 101; i++) {
            int times = i;
            x.day();
            x.fly(0, 0, i % 3);
            x.take(0, 0);
            x.image();
            Checks.due(times % 61, () -> x.season(times, times % 61, NONE));
        }
        Checks.due(40, () -> x.count(6));
        Checks.due(101 % 7, () -> x.count(5));
    }

    private static void restoring() {
        Checks.sentence(42, "They are as the image again: true. False: there is none.");
        OpenSaying x = Checks.of(LOOP + "saying 0 0;");
        Checks.due(0, () -> x.restore() ? 1 : 0);
        Checks.dueWords(x, 0, 0);
        x.day();
        Checks.due(0, () -> x.restore() ? 1 : 0);
        Checks.due(1, () -> x.count(5));
        x.image();
        // More than once, each time the same.
        for (int time = 0; time < 3; time++) {
            x.take(0, 0);
            x.day();
            x.undo();
            x.undo();
            x.undo();
            Checks.due(1, () -> x.restore() ? 1 : 0);
            Checks.dueWords(x, 0, 0);
            Checks.due(1, () -> x.count(5));
            Checks.due(1, () -> x.count(6));
        }
        // To restore is no act, and neither the tape nor what is told changes.
        x.feed(1, 2, 3, 4, 5);
        Checks.due(1, () -> x.restore() ? 1 : 0);
        Checks.due(20, () -> x.count(8));
        Checks.due(1, () -> x.museum(20));
        Checks.due(1, () -> x.restore() ? 1 : 0);
        Checks.due(0, () -> x.fault());
        Checks.due(0, () -> x.museum(0));
        Checks.due(0, () -> x.restore() ? 1 : 0);
        Checks.due(0, () -> x.count(3));
    }
}
