/**
 * The boundary cases of the tape, of a text and of its faults (promises 1 to 4), sentence by sentence.
 * A ^ marks the place of the fault that is due.
 */
public final class TextBoundariesTest {
    private static final int NONE = Checks.NONE;
    private static final String LOOP = "state;word a 0;arc 0 0 0;";

    private TextBoundariesTest() {
    }

    public static void main(String[] args) {
        newObject();
        feeding();
        museums();
        faultPlaces();
        howMuchIsTold();
        howLittleIsTold();
        tokens();
        lines();
        rules();
        valuesOfRules();
        whichFault();
        faultOne();
        faultTwoOfTokens();
        faultTwoOfCounts();
        faultTwoOfRules();
        faultThree();
        faultsFourToSix();
        Checks.end();
    }

    private static void newObject() {
        Checks.sentence(1, "`NONE = -1`: There is none.");
        Checks.due(-1, () -> OpenSaying.NONE);

        Checks.sentence(1, "No STATES, no SAYINGS.");
        OpenSaying x = new OpenSaying();
        Checks.dueEach(x::count, new long[15]);
        Checks.dueNoSuch(() -> x.open(0), () -> x.must(0), () -> x.far(0, 0), () -> x.arc(0, 0),
                () -> x.may(0), () -> x.saying(0, NONE), () -> x.cost(0), () -> x.season(1, 1, 0),
                () -> x.kind(0), () -> x.about(0), () -> x.letter(0, NONE), () -> x.odds(0, 0, 0, 0));
        Checks.due(NONE, () -> x.fault());
        Checks.due(NONE, () -> x.undo());
        Checks.due(NONE, () -> x.nearest());
        Checks.due(0, () -> x.closed());
        Checks.due(0, () -> x.who(0));
        Checks.due(NONE, () -> x.who(1));
        Checks.due(0, () -> x.restore() ? 1 : 0);
    }

    private static void feeding() {
        Checks.sentence(2, "Twenty bytes come behind the tape");
        OpenSaying tape = new OpenSaying();
        tape.feed(0x73746174, 0x653b2020, 0x20202020, 0x20202020, 0x2020200a);
        tape.feed(0x73746174, 0x653b2020, 0x20202020, 0x20202020, 0x2020203f);
        Checks.due(40, () -> tape.count(8));
        Checks.due(1, () -> tape.museum(40));
        Checks.due(39, () -> tape.fault());

        Checks.sentence(2, "of each number the highest first: how many it has");
        OpenSaying x = new OpenSaying();
        // "stat" "e;wo" "rd a" " 7;a" "rc 0", then " 7 0" ";   ": the bytes in this order alone are a text.
        Checks.due(20, () -> x.feed(0x73746174, 0x653b776f, 0x72642061, 0x20373b61, 0x72632030));
        Checks.due(40, () -> x.feed(0x20372030, 0x3b202020, 0x20202020, 0x20202020, 0x20202020));
        Checks.due(0, () -> x.museum(40));
        Checks.due(0, () -> x.arc(0, 7));
        // A highest byte above 127, and the lowest byte of the last number.
        Checks.due(20, () -> x.feed(0xff202020, 0x20202020, 0x20202020, 0x20202020, 0x20202020));
        Checks.due(1, () -> x.museum(20));
        Checks.due(0, () -> x.fault());
        Checks.due(20, () -> x.feed(0x20202020, 0x20202020, 0x20202020, 0x20202020, 0x202020ff));
        Checks.due(1, () -> x.museum(20));
        Checks.due(19, () -> x.fault());
        Checks.due(20, () -> x.feed(0x20202020, 0x20202020, 0x20202020, 0x20202020, 0x202020ff));
        Checks.due(0, () -> x.museum(19));

        Checks.sentence(2, "NONE, and none come, if it would have more than 700.");
        OpenSaying y = new OpenSaying();
        for (int i = 1; i <= 35; i++) {
            int bytes = 20 * i;
            Checks.due(bytes, () -> y.feed(0x20202020, 0x20202020, 0x20202020, 0x20202020, 0x20202020));
        }
        Checks.due(NONE, () -> y.feed(0x61616161, 0, 0, 0, 0));
        Checks.due(NONE, () -> y.feed(0, 0, 0, 0, 0));
        Checks.due(700, () -> y.count(8));
        // None of the refused bytes is there, neither behind the others nor in their place.
        Checks.dueIllegal(() -> y.museum(701));
        Checks.due(0, () -> y.museum(700));
        Checks.due(20, () -> y.feed(0, 0, 0, 0, 0));
    }

    private static void museums() {
        Checks.sentence(3, "The tape's first n bytes (it is empty then) are a MUSEUM");
        OpenSaying x = new OpenSaying();
        Checks.due(20, () -> Checks.feed(x, "state;state;oops"));
        Checks.due(0, () -> x.museum(12));
        Checks.due(2, () -> x.count(0));
        Checks.due(0, () -> x.count(8));
        Checks.dueIllegal(() -> x.museum(1));
        // Also behind a fault, and of no bytes at all.
        Checks.due(20, () -> Checks.feed(x, "oops"));
        Checks.due(1, () -> x.museum(4));
        Checks.due(0, () -> x.count(8));
        Checks.due(20, () -> Checks.feed(x, "oops"));
        Checks.due(0, () -> x.museum(0));
        Checks.due(0, () -> x.count(8));

        Checks.sentence(3, "all anew: 0, or the FAULT (all stays).");
        OpenSaying y = Checks.of("state end;state;word a 0;word b 1;arc 0 0 1;arc 1 1 0;cost 0 7;habit 1;law 1;saying 0 0;");
        Checks.due(2, () -> Checks.tell(y, "word z 8;"));
        Checks.dueEach(y::count, 2, 2, 2, 1, 1, 0, 0, 0, 0, 1, 0, 0, 0, 1, 1);
        Checks.due(1, () -> y.letter(0, 0));
        Checks.due(7, () -> y.cost(0));
        Checks.due(2, () -> y.may(0));
        // A fault in the very last byte leaves nothing of the lines ahead of it.
        Checks.due(1, () -> Checks.tell(y, "state;state;state;word z 0;arc 2 0 2;cost 0 9;saying 2 0;law 0;?"));
        Checks.dueEach(y::count, 2, 2, 2, 1, 1, 0, 0, 0, 0, 2, 0, 0, 0, 1, 1);
        Checks.due(7, () -> y.cost(0));
        Checks.due(2, () -> y.may(0));
        Checks.due(0, () -> Checks.tell(y, "state;word z 0;saying 0;"));
        Checks.dueEach(y::count, 1, 1, 0, 1, 0, 0, 0, 0, 0, 2, 0, 0, 0, 0, 0);
        Checks.due(26, () -> y.letter(0, 0));
        Checks.due(NONE, () -> y.arc(0, 0));
        // Neither the law nor the cost of before is told now.
        Checks.due(0, () -> Checks.tell(y, LOOP + "law 0;cost 0 5;saying 0;"));
        Checks.due(0, () -> y.may(0));
        Checks.due(0, () -> Checks.tell(y, LOOP + "saying 0 0;"));
        Checks.due(1, () -> y.may(0));
        Checks.due(1, () -> y.cost(0));
        Checks.due(0, () -> y.museum(0));
        Checks.due(0, () -> y.count(0));
        Checks.due(0, () -> y.count(3));
        nothingOfBefore();

        Checks.sentence(3, "ACTS, the DAY, what is SEEN, the image are gone (STATUS stays).");
        OpenSaying z = busy();
        Checks.dueEach(what -> z.count(what + 5), 1, 2, 3, 0, 1, 1, 1);
        Checks.due(1, () -> Checks.tell(z, "?"));
        Checks.dueEach(what -> z.count(what + 5), 1, 2, 3, 0, 2, 1, 1);
        Checks.due(1, () -> z.restore() ? 1 : 0);
        OpenSaying gone = busy();
        Checks.due(0, () -> gone.museum(0));
        Checks.dueEach(what -> gone.count(what + 5), 0, 0, 0, 0, 1, 1, 1);
        Checks.due(NONE, () -> gone.undo());
        Checks.due(0, () -> gone.restore() ? 1 : 0);

        Checks.sentence(3, "IllegalArgumentException: the tape has not so many, n below 0 (nothing changes).");
        OpenSaying w = busy();
        Checks.due(1, () -> Checks.tell(w, "state;?"));
        Checks.feed(w, "state;");
        Checks.dueIllegal(() -> w.museum(21), () -> w.museum(-1), () -> w.museum(Integer.MAX_VALUE),
                () -> w.museum(Integer.MIN_VALUE));
        Checks.due(6, () -> w.fault());
        Checks.dueEach(w::count, 1, 1, 1, 1, 1, 1, 2, 3, 20, 2, 1, 1, 0, 0, 1);
        Checks.due(1, () -> w.restore() ? 1 : 0);
        Checks.due(1, () -> w.museum(20));
        Checks.dueIllegal(() -> w.museum(1));
        Checks.due(0, () -> w.museum(0));
    }

    /** What the text before told plays no part in any answer, though the same numbers stand in both. */
    private static void nothingOfBefore() {
        OpenSaying x = Checks.of("state;state;word a 0;word b 0;word c 1;arc 0 0 1;arc 1 1 1;cost 1 0;saying 0;");
        Checks.due(0, () -> x.turn(0, 0));
        Checks.due(2, () -> x.ways(0, 2, false));
        // Kind 1 has no word any more, kind 0 only one.
        Checks.due(0, () -> Checks.tell(x, "state;state;word a 0;arc 0 0 1;arc 1 1 1;saying 0;"));
        Checks.due(0, () -> x.may(0));
        Checks.dueEach(x::open, 1, 0);
        Checks.due(1, () -> x.ways(0, 1, false));
        Checks.due(0, () -> x.ways(0, 2, false));
        Checks.due(1, () -> x.costs(0, 60, NONE));
        Checks.dueEach(state -> x.turn(state, 0), 1, 2);
        // Where one won and one lost, neither must now.
        Checks.due(0, () -> Checks.tell(x, "state;state;word a 0;arc 0 0 1;arc 1 0 0;"));
        Checks.dueEach(state -> x.turn(state, 0), 0, 0);
        // A shorter rule, and a shorter row of letters, in the place of a longer one.
        for (String law : new String[] {"not 1", "1-1", "1*0", "1 and 0"}) {
            Checks.due(0, () -> Checks.tell(x, LOOP + "saying 0;law " + law + ";"));
            Checks.due(0, () -> x.may(0));
            Checks.due(0, () -> Checks.tell(x, LOOP + "saying 0;law 1;"));
            Checks.due(1, () -> x.may(0));
        }
        Checks.due(0, () -> Checks.tell(x, "word abcdefghi 0;word b 0;"));
        Checks.due(4, () -> Checks.tell(x, "word a 0;word a 0;"));
        Checks.due(0, () -> Checks.tell(x, "word a 0;word ab 0;"));
        Checks.due(1, () -> x.letter(0, NONE));
        // As many steps of a rule as a text can tell, one time after the other.
        String law = "law " + "1+".repeat(320) + "long-320;";
        for (int time = 0; time < 3; time++) {
            OpenSaying y = time == 0 ? Checks.of("") : x;
            Checks.due(0, () -> Checks.tell(y, LOOP + "saying 0;" + law));
            Checks.due(0, () -> y.may(0));
            y.fly(0, 0, 0);
            Checks.due(1, () -> y.may(0));
        }
    }

    /** One text, act and sight were refused; a day and a word came, three are seen, an image is kept. */
    private static OpenSaying busy() {
        OpenSaying x = Checks.of(LOOP + "habit 1;saying 0;");
        Checks.tell(x, "?");
        x.day();
        x.add(0, 0);
        x.take(0, 1);
        for (int i = 0; i < 4; i++) {
            x.see(0, 0);
        }
        x.image();
        // A season is played with all that, and leaves nothing of it behind.
        x.season(1, 9, NONE);
        return x;
    }

    private static void faultPlaces() {
        Checks.sentence(4, "The place of the latest museum()'s FAULT; NONE without.");
        OpenSaying x = new OpenSaying();
        Checks.due(NONE, () -> x.fault());
        Checks.due(1, () -> Checks.tell(x, "?"));
        Checks.due(0, () -> x.fault());
        Checks.due(1, () -> Checks.tell(x, "state;;"));
        Checks.due(6, () -> x.fault());
        Checks.due(6, () -> x.fault());
        Checks.due(0, () -> Checks.tell(x, "state;"));
        Checks.due(NONE, () -> x.fault());
        // The last byte that a text can have, and its end.
        Checks.dueFault(1, 699, " ".repeat(699) + "?");
        Checks.dueFault(1, 700, " ".repeat(695) + "state");
    }

    private static String words(int howMany) {
        StringBuilder text = new StringBuilder();
        for (int i = 0; i < howMany; i++) {
            text.append("word ").append((char) ('a' + i)).append(" 0;");
        }
        return text.toString();
    }

    private static String arcs(int howMany) {
        StringBuilder text = new StringBuilder("state;state;state;state;");
        for (int i = 0; i < howMany; i++) {
            text.append("arc ").append(i / 8).append(' ').append(i % 8).append(" 0;");
        }
        return text.toString();
    }

    private static void howMuchIsTold() {
        Checks.sentence(3, "STATES 0, 1 .. (at most 10), each an END or not.");
        OpenSaying ten = Checks.of("state;".repeat(9) + "state end;");
        Checks.due(10, () -> ten.count(0));
        Checks.due(512, () -> ten.count(13));
        Checks.due(0, () -> ten.must(9));
        Checks.dueNoSuch(() -> ten.must(10));
        OpenSaying ends = Checks.of("state end;".repeat(10));
        Checks.due(1023, () -> ends.count(13));
        Checks.dueFault(2, 100, "state end;".repeat(11));

        Checks.sentence(3, "WORDS 0, 1 .. (at most 14)");
        OpenSaying fourteen = Checks.of(words(14));
        Checks.due(14, () -> fourteen.count(1));
        Checks.due(14, () -> fourteen.letter(13, 0));
        Checks.dueNoSuch(() -> fourteen.kind(14));
        Checks.dueFault(2, words(14).length(), words(15));

        Checks.sentence(3, "a row of letters (1 to 9; no two alike)");
        OpenSaying rows = Checks.of("word a 0;word aa 0;word b 0;word abcdefghi 0;word abcdefghj 0;word abcdefgh 0;");
        Checks.due(1, () -> rows.letter(0, NONE));
        Checks.due(9, () -> rows.letter(3, NONE));
        Checks.dueFault(2, "word ^abcdefghij 0;");
        Checks.dueFault(4, "word a 0;word ^a 0;");
        Checks.dueFault(4, "word abcdefghi 0;word b 0;word ^abcdefghi 7;");

        Checks.sentence(3, "a KIND (0 to 7)");
        OpenSaying kinds = Checks.of("word a 0;word b 7;state;arc 0 0 0;arc 0 7 0;cost 0 1;cost 7 1;");
        Checks.due(0, () -> kinds.kind(0));
        Checks.due(7, () -> kinds.kind(1));
        Checks.dueFault(2, "word a ^8;");
        Checks.dueFault(2, "state;arc 0 ^8 0;");
        Checks.dueFault(2, "cost ^8 0;");

        Checks.sentence(3, "ARCS (at most 24): from a STATE by a KIND to a STATE");
        OpenSaying most = Checks.of(arcs(24));
        Checks.due(24, () -> most.count(2));
        Checks.due(0, () -> most.arc(2, 7));
        Checks.due(NONE, () -> most.arc(3, 0));
        Checks.dueFault(2, arcs(24).length(), arcs(25));

        Checks.sentence(3, "(one for each STATE and KIND at most)");
        Checks.dueFine("state;state;arc 0 3 0;arc 1 3 0;arc 0 4 0;");
        Checks.dueFault(4, "state;state;arc 0 3 0;arc 0 ^3 1;");

        Checks.sentence(3, "COSTS of KINDS (0 to 9; 1 without)");
        OpenSaying costs = Checks.of("state;word a 0;word b 1;word c 2;arc 0 0 0;arc 0 1 0;arc 0 2 0;"
                + "cost 0 0;cost 1 9;saying 0 0;saying 0 1;saying 0 2;");
        Checks.dueEach(costs::cost, 0, 9, 1);
        Checks.dueFault(2, "cost 0 ^10;");

        Checks.sentence(3, "VISITORS 0, 1 .. (at most 4): HABITS, each a rule.");
        OpenSaying four = Checks.of(LOOP + "saying 0;habit 0;habit 1;habit 2;habit day;");
        Checks.due(4, () -> four.count(4));
        Checks.dueEach(visitor -> four.odds(visitor, 0, 0, 0), 0, 1, 1, 0);
        Checks.dueNoSuch(() -> four.odds(4, 0, 0, 0));
        Checks.dueFault(2, 32, "habit 1;".repeat(5));

        Checks.sentence(3, "SAYINGS 0, 1 .. (at most 5): the STATE in which each begins, WORDS (at most 40) that are told.");
        OpenSaying five = Checks.of(LOOP + "saying 0;".repeat(4) + "saying 0 0;");
        Checks.due(5, () -> five.count(3));
        Checks.dueEach(saying -> five.saying(saying, NONE), 0, 0, 0, 0, 1);
        Checks.dueNoSuch(() -> five.saying(5, NONE));
        Checks.dueFault(2, LOOP + "saying 0;".repeat(5) + "^saying 0;");
        OpenSaying forty = Checks.of(LOOP + "saying 0" + " 0".repeat(40) + ";");
        Checks.due(40, () -> forty.saying(0, NONE));
        Checks.dueFault(2, LOOP + "saying 0" + " 0".repeat(40) + " ^0;");

        Checks.sentence(3, "A TEXT of at most 700 bytes tells it.");
        Checks.dueFine(" ".repeat(694) + "state;");
        Checks.dueFine("state;" + "\n".repeat(694));
    }

    private static void howLittleIsTold() {
        Checks.sentence(3, "[ ] perhaps, * any number of times, | one of some. MUSEUM: LINE*.");
        Checks.dueFine("", " ", "\n", " ".repeat(700));
        Checks.dueFine("state;", "state end;", "state;saying 0;", LOOP + "saying 0 0;");
        OpenSaying none = Checks.of("");
        Checks.dueEach(none::count, new long[15]);
        // In any order, but for what must be told ahead.
        Checks.dueFine("law 1;habit 2;cost 3 4;word a 5;state;arc 0 6 0;saying 0;state end;word b 5;");
    }

    private static void tokens() {
        Checks.sentence(3, "words (a .. z, the longest row)");
        OpenSaying az = Checks.of("word az 0;");
        Checks.due(1, () -> az.letter(0, 0));
        Checks.due(26, () -> az.letter(0, 1));
        Checks.dueFault(1, "word ^`a 0;");
        Checks.dueFault(1, "word a^` 0;");
        Checks.dueFault(1, "word ^{a 0;");
        Checks.dueFault(1, "word z^{ 0;");
        Checks.dueFault(1, "word ^A 0;");
        Checks.dueFault(1, "word a^Z 0;");
        for (String word : new String[] {"xtate;", "xord a 0;", "xrc 0 0 0;", "xost 0 0;", "xaying 0;", "xabit 1;", "xaw 1;"}) {
            Checks.dueFault(1, "state;^" + word);
        }
        Checks.dueFault(1, "state ^xnd;");
        Checks.dueFault(1, "law 1 ^xr 1;");
        Checks.dueFault(1, "law 1 ^xnd 1;");
        Checks.dueFault(3, "law ^xot 1;");
        Checks.dueFault(3, "law ^xay;");
        Checks.dueFault(1, "^stateend;");
        Checks.dueFault(1, "^worda 0;");
        Checks.dueFault(1, "^lawnot 1;");
        Checks.dueFault(3, "law ^notday;");

        Checks.sentence(3, "NUMBERS (1 to 4 digits)");
        Checks.dueFine("cost 0 9;", "cost 0000 0009;", "law 9999;", "law 0000;");
        Checks.dueFault(2, "cost 0 ^00009;");
        Checks.dueFault(2, "law ^00000;");
        Checks.dueFault(1, "cost 0 ^:;");
        Checks.dueFault(1, "cost 0 9^:");
        Checks.dueFault(1, "cost 0 ^/;");

        Checks.sentence(3, "signs ; ( ) + - * / < =");
        Checks.dueFine("law (1)+1-1*1/1<1;", "law 1=1;");
        for (char none : "!\"#$%&',.:>?@[\\]_`{|}~\t\u0000\u007f\u0080\u00ff".toCharArray()) {
            Checks.dueFault(1, 5, "law 1" + none + "1;");
        }
        // The bytes of the signs with their highest bit set are none.
        for (char sign : ";()+-*/<=".toCharArray()) {
            Checks.dueFault(1, 5, "law 1" + (char) (sign + 128) + "1;");
        }

        Checks.sentence(3, "blanks (32, 10) between them count for nothing");
        Checks.dueFine("  \n state \n end\n;  \n", "word a0;word b7;state;arc 0 7\n0;", "law(1)and not 1;");
        Checks.dueFine("law not(1)or(day<1)and(2);");
        for (int none : new int[] {0, 9, 11, 12, 13, 31, 33, 160}) {
            Checks.dueFault(1, 6, "state;" + (char) none + "state;");
        }
        // Between letters and between digits they part two tokens.
        Checks.dueFault(1, "^st ate;");
        Checks.dueFault(1, "cost 0 1 ^1;");
        Checks.dueFault(1, "word a ^b 0;");
    }

    private static void lines() {
        Checks.sentence(3, "LINE: ('state' ['end'] | 'word' ROW KIND | 'arc' STATE KIND STATE | 'cost' KIND NUMBER | "
                + "'saying' STATE WORD* | 'habit' EXPR | 'law' EXPR) ';'");
        String[] all = {"state", "state end", "word a 0", "arc 0 0 0", "cost 0 0", "saying 0", "habit 1", "law 1"};
        for (String line : all) {
            Checks.dueFine("state;" + line + ";");
            Checks.dueFault(1, "state;" + line + "^");
            Checks.dueFault(1, "state;" + line + " ^state;");
            Checks.dueFault(1, "state;" + line + ";^;");
        }

        Checks.sentence(3, "all in capitals but ROW (any word), EXPR being NUMBERS.");
        OpenSaying x = Checks.of("word state 0;word end 0;word word 0;word arc 0;word law 0;word not 0;word kind 0;");
        Checks.due(7, () -> x.count(1));
        Checks.dueFault(1, "word ^0 0;");
        Checks.dueFault(1, "word ^; 0;");
        Checks.dueFault(1, "word a ^b;");
        Checks.dueFault(1, "state;arc ^a 0 0;");
        Checks.dueFault(1, "state;arc 0 ^a 0;");
        Checks.dueFault(1, "state;arc 0 0 ^a;");
        Checks.dueFault(1, "cost ^a 0;");
        Checks.dueFault(1, "cost 0 ^a;");
        Checks.dueFault(1, "state;saying ^a;");
        Checks.dueFault(1, "state;saying 0 ^a;");
    }

    /** Whether a law holds for a word a at the end of a saying "a a". */
    private static void dueLaw(boolean holds, String law) {
        OpenSaying x = Checks.of(LOOP + "saying 0 0 0;law " + law + ";");
        Checks.due(holds ? 1 : 0, () -> x.may(0));
    }

    private static void rules() {
        Checks.sentence(10, "EXPR: AND ('or' AND)*. AND: NOT ('and' NOT)*.");
        dueLaw(true, "1 or 0 and 0");
        dueLaw(true, "0 and 0 or 1");
        dueLaw(false, "(1 or 0) and 0");
        dueLaw(true, "not 0 and 1");
        dueLaw(false, "not (0 or 1)");
        dueLaw(true, "not 1 or 1");
        dueLaw(true, "0 or 0 or 0 or 1");
        dueLaw(false, "1 and 1 and 1 and 0");

        Checks.sentence(10, "SUM: PRODUCT (('+' | '-') PRODUCT)*. PRODUCT: PART (('*' | '/') PART)*. "
                + "PART: NUMBER | VALUE | '(' EXPR ')'.");
        dueLaw(true, "2+3*4=14");
        dueLaw(true, "2*3+4=10");
        dueLaw(true, "(2+3)*4=20");
        dueLaw(true, "20-8/4=18");
        dueLaw(true, "(((((7)))))=7");
        dueLaw(true, "(1 or 0)*5=5");
        // As many joins wait for one another as ever can; each level turns 0 into 1 and 1 into 0.
        String join = "0 or 1 and 1=1+1*(";
        dueLaw(true, join.repeat(5) + "0" + ")".repeat(5));
        dueLaw(false, join.repeat(4) + "0" + ")".repeat(4));
        dueLaw(false, join.repeat(5) + "0 or 1 and 2=1+1*1" + ")".repeat(5));

        Checks.sentence(10, "NOT: 'not' NOT | SUM [('<' | '=') SUM].");
        dueLaw(false, "not 1=1");
        dueLaw(true, "(not 1)=0");
        dueLaw(false, "not not 7=1");
        Checks.dueFault(1, "law 1<2^<3;");
        Checks.dueFault(1, "law 1=2^=3;");
        Checks.dueFault(1, "law 1<2^=3;");
        Checks.dueFine("law (1<2)<3;", "law 1<(2<3);", "law 1<2 and 2<3 or 3=4;");

        Checks.sentence(10, "From the left; ints that wrap, / cut down to 0, by 0 gives 0");
        dueLaw(true, "9-5-3=1");
        dueLaw(true, "9-5+3=7");
        dueLaw(true, "100/10/5=2");
        dueLaw(true, "100/10*5=50");
        dueLaw(true, "7/2*2=6");
        dueLaw(true, "7/2=3");
        dueLaw(true, "(0-7)/2=0-3");
        dueLaw(true, "7/(0-2)=0-3");
        dueLaw(true, "(0-7)/(0-2)=3");
        dueLaw(true, "7/0=0");
        dueLaw(true, "0/0=0");
        dueLaw(true, "(0-7)/0=0");
        dueLaw(true, "7/(3/4)=0");
        // 8192 by 4096 by 64 is 2 to the 31st, the least int; one less is the greatest.
        dueLaw(true, "8192*4096*64<0");
        dueLaw(true, "0<8192*4096*64-1");
        dueLaw(true, "8192*4096*64=0-8192*4096*64");
        dueLaw(true, "8192*4096*128=0");
        dueLaw(true, "8192*4096*64/(0-1)=8192*4096*64");
        dueLaw(true, "8192*4096*64-1+1=8192*4096*64");

        Checks.sentence(10, "tests, not, and, or are 1 or 0 (what isn't 0 holds)");
        dueLaw(true, "(2 and 3)=1");
        dueLaw(true, "(2 and 0)=0");
        dueLaw(true, "(0 or 5)=1");
        dueLaw(true, "(0 or 0)=0");
        dueLaw(true, "(not 5)=0");
        dueLaw(true, "(not 0)=1");
        dueLaw(true, "(not not 5)=1");
        dueLaw(true, "(1<2)+(2=2)+(2<2)+(1=2)=2");
        dueLaw(true, "0-1");
        dueLaw(true, "2");
        dueLaw(false, "0");
        dueLaw(true, "0-1 and 0-1");
        dueLaw(false, "not (0-1)");
        dueLaw(true, "8192*4096*64");
    }

    private static void valuesOfRules() {
        String words = "word a 0;word bcdefghia 7;word b 3;";
        String all = "state;" + words + "arc 0 0 0;arc 0 7 0;arc 0 3 0;";
        Checks.sentence(10, "'kind', 'letters', 'word' (its number)");
        dueMay(4, all + "saying 0;law kind=3;");
        dueMay(1, all + "saying 0;law kind=0;");
        dueMay(2, all + "saying 0;law letters=9;");
        dueMay(5, all + "saying 0;law letters=1;");
        dueMay(1, all + "saying 0;law word=0;");
        OpenSaying last = Checks.of("state;arc 0 0 0;" + words(14) + "saying 0;law word=13;");
        Checks.due(1 << 13, () -> last.may(0));

        Checks.sentence(10, "'day' (0 to 6)");
        OpenSaying days = Checks.of(LOOP + "saying 0;law day;");
        Checks.due(126, () -> days.days(0, 0));
        OpenSaying six = Checks.of(LOOP + "saying 0;law day=6;");
        Checks.due(64, () -> six.days(0, 0));
        OpenSaying seven = Checks.of(LOOP + "saying 0;law 6<day;");
        Checks.due(0, () -> seven.days(0, 0));

        Checks.sentence(10, "'long' (how many WORDS there are)");
        dueMay(1, LOOP + "saying 0;law long=0;");
        dueMay(1, LOOP + "saying 0 0;law long=1;");
        dueMay(1, LOOP + "saying 0" + " 0".repeat(39) + ";law long=39;");

        Checks.sentence(10, "'same' (how often it is there already)");
        dueMay(7, all + "saying 0;law same=0;");
        dueMay(2, all + "saying 0 2 1 2 1 1;law same=3;");
        dueMay(1, all + "saying 0 2 1 2 1 1;law same=0;");
        dueMay(1, LOOP + "saying 0" + " 0".repeat(39) + ";law same=39;");

        Checks.sentence(10, "'rhymes' (1, if its last letter is that of the last WORD there, else 0)");
        dueMay(0, all + "saying 0;law rhymes;");
        dueMay(7, all + "saying 0;law rhymes=0;");
        dueMay(3, all + "saying 0 2 0;law rhymes=1;");
        dueMay(3, all + "saying 0 1;law rhymes;");
        dueMay(4, all + "saying 0 1 2;law rhymes;");
        dueMay(3, all + "saying 0 1 2;law rhymes=0;");
        // The last ones of 14 words: g ends the 7th, the 12th and the 14th.
        OpenSaying most = Checks.of("state;word a 0;word b 0;word c 0;word d 0;word e 0;word f 0;word g 0;word gh 0;word gi 0;"
                + "word j 0;word k 0;word bg 0;word ggm 0;word abcdefg 0;arc 0 0 0;saying 0 13;saying 0 12;law rhymes;");
        Checks.dueEach(most::may, (1 << 6) + (1 << 11) + (1 << 13), 1 << 12);
    }

    private static void dueMay(int bits, String text) {
        OpenSaying x = Checks.of(text);
        Checks.due(bits, () -> x.may(0));
    }

    private static void whichFault() {
        Checks.sentence(4, "FAULTS, the first along the text, at a TOKEN's first byte, of one TOKEN the least");
        Checks.dueFault(3, "law ^verb;state;arc 9 9 9;?");
        Checks.dueFault(5, "law 1;^law 2;word abcdefghij 0;");
        Checks.dueFault(2, "word ^abcdefghij 8;");
        Checks.dueFault(4, "word a 0;word ^a 8;");
        Checks.dueFault(3, "state;arc ^1 8 1;");
        Checks.dueFault(1, "word abc^?defghij 0;");
        Checks.dueFault(3, LOOP + "saying 0 ^1 ?;");
        Checks.dueFault(6, LOOP + "word b 1;saying 0 ^1 9 ?;");
        // Too long a number that is not told either; the 41st word that is not told and has no arc.
        Checks.dueFault(2, "state;arc ^00001 0 0;");
        Checks.dueFault(2, "state;saying ^10000;");
        Checks.dueFault(2, LOOP + "saying 0" + " 0".repeat(40) + " ^1;");
        Checks.dueFault(2, LOOP + "word b 1;saying 0" + " 0".repeat(40) + " ^1;");
        Checks.dueFault(2, LOOP + "saying 0" + " 0".repeat(40) + " ^12345;");
        Checks.dueFault(1, LOOP + "saying 0" + " 0".repeat(40) + " ^a;");
        Checks.dueFault(1, LOOP + "saying 0" + " 0".repeat(40) + "^");
        // A word that is no value, but within 6 others already.
        Checks.dueFault(2, "law ((((((^verb");
    }

    private static void faultOne() {
        Checks.sentence(4, "1 a TOKEN that can't stand there, or is none");
        Checks.dueFault(1, "^;");
        Checks.dueFault(1, "^1;");
        Checks.dueFault(1, "^end;");
        Checks.dueFault(1, "^states;");
        Checks.dueFault(1, "state;^;");
        Checks.dueFault(1, "state ^state;");
        Checks.dueFault(1, "state end ^end;");
        Checks.dueFault(1, "state ^12345;");
        Checks.dueFault(1, "word ^12345 0;");
        Checks.dueFault(1, "word a ^abcdefghij;");
        Checks.dueFault(1, "word a 0 ^0;");
        Checks.dueFault(1, "state;arc 0 0 0 ^0;");
        Checks.dueFault(1, "cost 0 0 ^0;");
        Checks.dueFault(1, "cost ^-1 0;");
        Checks.dueFault(1, "state;saying 0 ^(;");
        Checks.dueFault(1, "law ^;");
        Checks.dueFault(1, "law ^);");
        Checks.dueFault(1, "law ^-1;");
        Checks.dueFault(1, "law (^);");
        Checks.dueFault(1, "law 1^);");
        Checks.dueFault(1, "law (1^;");
        Checks.dueFault(1, "law 1 ^1;");
        Checks.dueFault(1, "law 1 ^12345;");
        Checks.dueFault(1, "law 1 ^verb;");
        Checks.dueFault(1, "law 1 ^not 1;");
        Checks.dueFault(1, "law 1 ^(1);");
        Checks.dueFault(1, "law 1+^;");
        Checks.dueFault(1, "law 1 or ^;");
        Checks.dueFault(1, "law not ^;");
        Checks.dueFault(1, "^\u0000");
        Checks.dueFault(1, "^\u00ff");
        Checks.dueFault(1, "law 1^\t;");

        Checks.sentence(4, "(the text's length where it ends too soon)");
        for (String begun : new String[] {"state", "state end", "word", "word a", "word a 0", "state;arc", "state;arc 0",
            "state;arc 0 0", "state;arc 0 0 0", "cost", "cost 0", "cost 0 0", "state;saying", "state;saying 0",
            LOOP + "saying 0 0", "habit", "law", "law 1", "law not", "law (", "law (1", "law 1+", "law 1<",
            "law 1 or", "law 1 and", "law ((((((", "law not not not not not not"}) {
            Checks.dueFault(1, begun.length(), begun);
            Checks.dueFault(1, begun.length() + 3, begun + " \n ");
        }
        // The tape goes on, but the text does not.
        OpenSaying x = new OpenSaying();
        Checks.feed(x, "state;");
        Checks.due(1, () -> x.museum(5));
        Checks.due(5, () -> x.fault());
        Checks.feed(x, "cost 0 12345;");
        Checks.due(1, () -> x.museum(8));
        Checks.due(8, () -> x.fault());
    }

    private static void faultTwoOfTokens() {
        Checks.sentence(4, "a ROW of 10 letters or more");
        Checks.dueFine("word abcdefghi 0;");
        Checks.dueFault(2, "word ^abcdefghij 0;");
        Checks.dueFault(2, "word ^" + "a".repeat(600) + " 0;");

        Checks.sentence(4, "a NUMBER of 5 digits or more");
        Checks.dueFault(2, "word a ^00000;");
        Checks.dueFault(2, "state;arc ^00000 0 0;");
        Checks.dueFault(2, "state;arc 0 ^00000 0;");
        Checks.dueFault(2, "state;arc 0 0 ^00000;");
        Checks.dueFault(2, "cost ^00000 0;");
        Checks.dueFault(2, "cost 0 ^00000;");
        Checks.dueFault(2, "state;saying ^00000;");
        Checks.dueFault(2, LOOP + "saying 0 ^00000;");
        Checks.dueFault(2, "law ^10000;");
        Checks.dueFault(2, "habit 1+^00001;");
        // Numbers that would wrap to one that can stand there: 2 to the 32nd, and many digits more.
        Checks.dueFault(2, "cost ^4294967296 0;");
        Checks.dueFault(2, "law ^" + "9".repeat(600) + ";");
        Checks.dueFine(LOOP + "arc 0000 0007 0000;saying 0000 0000;law 9999;");

        Checks.sentence(4, "or (not in an EXPR) not as told");
        Checks.dueFine("word a 7;cost 7 9;");
        Checks.dueFault(2, "word a ^8;");
        Checks.dueFault(2, "word a ^9999;");
        Checks.dueFault(2, "state;arc 0 ^8 0;");
        Checks.dueFault(2, "cost ^8 0;");
        Checks.dueFault(2, "cost 7 ^10;");
        Checks.dueFine("law 8+10+9999;");
    }

    private static void faultTwoOfCounts() {
        Checks.sentence(4, "the first TOKEN of the 11th STATE, the 15th WORD, the 25th ARC, the 6th SAYING, the 5th HABIT");
        Checks.dueFine("state;".repeat(10), words(14), arcs(24), "state;" + "saying 0;".repeat(5), "habit 1;".repeat(4));
        // Whatever stands behind it.
        Checks.dueFault(2, "state;".repeat(10) + "^state;");
        Checks.dueFault(2, "state end;".repeat(10) + "^state");
        Checks.dueFault(2, words(14) + "^word a 0;");
        Checks.dueFault(2, words(14) + "^word 5");
        Checks.dueFault(2, arcs(24) + "^arc 0 0 0;");
        Checks.dueFault(2, arcs(24) + "^arc");
        Checks.dueFault(2, "state;" + "saying 0;".repeat(5) + "^saying 9;");
        Checks.dueFault(2, "habit 1;".repeat(4) + "^habit;");
        Checks.dueFine("habit 1;".repeat(4) + "law 1;");

        Checks.sentence(4, "the 41st WORD of a SAYING");
        Checks.dueFine(LOOP + "saying 0" + " 0".repeat(40) + ";");
        Checks.dueFault(2, LOOP + "saying 0" + " 0".repeat(40) + " ^0 0 0;");
        // Of each saying for itself.
        Checks.dueFine(LOOP + ("saying 0" + " 0".repeat(40) + ";").repeat(5));
        Checks.dueFault(2, LOOP + ("saying 0" + " 0".repeat(40) + ";").repeat(4) + "saying 0" + " 0".repeat(40) + " ^0;");
    }

    private static void faultTwoOfRules() {
        Checks.sentence(4, "of an EXPR within 6 others (a NUMBER, any word, a parenthesis)");
        Checks.dueFine("law (((((1)))));", "habit (((((day)))))+(((((1)))));", "law ((((not (1<2)))));");
        Checks.dueFault(2, "law ((((((^1))))));");
        Checks.dueFault(2, "law ((((((^day))))));");
        Checks.dueFault(2, "law ((((((^not 1))))));");
        Checks.dueFault(2, "law ((((((^verb))))));");
        Checks.dueFault(2, "law ((((((^(1)))))));");
        Checks.dueFault(2, "law ((((((^12345))))));");
        Checks.dueFault(1, "law ((((((^))))));");
        Checks.dueFault(1, "law ((((((^+1))))));");
        Checks.dueFault(1, "law ((((((^;");
        // It is how many are open that counts, not how many there were.
        Checks.dueFine("law (((((1)))))=(((((1))))) and (((((1)))));", "law " + "(1)+".repeat(20) + "1;");
        Checks.dueFault(2, "law (1)+(((((1)))))+((((((^1))))));");
        Checks.dueFault(2, "law not (1<(2*(3 or (4 and (5-(^6))))));");

        Checks.sentence(4, "the seventh 'not' side by side");
        Checks.dueFine("law not not not not not not 1;");
        Checks.dueFault(2, "law not not not not not not ^not 1;");
        Checks.dueFault(2, "law 1 and not not not not not not ^not 1;");
        Checks.dueFault(2, "law (not not not not not not ^not");
        // Others stand between them here.
        Checks.dueFine("law not not not not not not (not not not not not not 1);",
                "law not not not not not not 1 or not not not not not not 1 and not 0;");
    }

    private static void faultThree() {
        Checks.sentence(4, "3 any word where a PART must stand that is no VALUE");
        for (String word : new String[] {"verb", "kinds", "da", "and", "or", "end", "law", "state", "a", "abcdefghijklmno"}) {
            Checks.dueFault(3, "law ^" + word + ";");
            Checks.dueFault(3, "law not ^" + word + ";");
            Checks.dueFault(3, "law 1*^" + word + ";");
            Checks.dueFault(3, "law (^" + word + ");");
            Checks.dueFault(3, "law 1 or ^" + word + ";");
        }
        Checks.dueFault(3, "law 1+^not 1;");
        Checks.dueFault(3, "law 1*^not 1;");
        Checks.dueFault(3, "law 1<^not 1;");
        Checks.dueFine("law kind+letters+word+day+long+same+rhymes;");

        Checks.sentence(4, "a STATE, a WORD that isn't told ahead");
        Checks.dueFault(3, "arc ^0 0 0;state;");
        Checks.dueFault(3, "state;arc 0 0 ^1;state;");
        Checks.dueFault(3, "state;arc ^1 0 0;state;");
        Checks.dueFault(3, "saying ^0;state;");
        Checks.dueFault(3, "state;saying ^1;state;");
        Checks.dueFault(3, "state;arc 0 0 0;saying 0 ^0;word a 0;");
        Checks.dueFault(3, LOOP + "saying 0 0 ^1;word b 0;");
        Checks.dueFault(3, "state;".repeat(10) + "saying ^10;");
        Checks.dueFault(3, "state;arc 0 0 0;" + words(14) + "saying 0 13 ^14;");
        Checks.dueFault(3, "state;saying ^9999;");
        Checks.dueFine("state;arc 0 0 0;state;arc 1 0 1;arc 1 1 0;saying 1;", "state;word a 0;arc 0 0 0;saying 0 0;");
    }

    private static void faultsFourToSix() {
        Checks.sentence(4, "4 a ROW that a WORD has already");
        Checks.dueFault(4, "word a 0;word ^a 0;");
        Checks.dueFault(4, "word a 0;word b 0;word ^a 1;");
        Checks.dueFault(4, "word abcdefghi 0;word ^abcdefghi 0;");
        Checks.dueFine("word ab 0;word a 0;word b 0;word abc 0;word ba 0;word bb 0;");

        Checks.sentence(4, "the KIND of an ARC from a STATE from which there is one by it");
        Checks.dueFault(4, "state;arc 0 0 0;arc 0 ^0 0;");
        Checks.dueFault(4, "state;state;arc 0 7 1;arc 0 ^7 9;");
        Checks.dueFine("state;state;arc 0 7 1;arc 1 7 1;arc 0 6 1;");

        Checks.sentence(4, "of a COST that was told");
        Checks.dueFault(4, "cost 0 1;cost ^0 1;");
        Checks.dueFault(4, "cost 7 0;cost 0 0;cost ^7 10;");
        Checks.dueFine("cost 0 1;cost 1 1;cost 2 1;cost 3 1;cost 4 1;cost 5 1;cost 6 1;cost 7 1;");

        Checks.sentence(4, "5 a second 'law'");
        Checks.dueFault(5, "law 1;^law 1;");
        Checks.dueFault(5, "law 0;state;^law");

        Checks.sentence(4, "6 a WORD of a SAYING by whose KIND there is no ARC (told ahead) from where it is then.");
        Checks.dueFault(6, "state;word a 0;saying 0 ^0;arc 0 0 0;");
        Checks.dueFault(6, "state;state;word a 0;arc 0 0 1;saying 0 0 ^0;");
        Checks.dueFault(6, "state;state;word a 0;arc 0 0 1;saying 1 ^0;");
        Checks.dueFault(6, LOOP + "word b 1;saying 0 0 0 ^1 0;");
        Checks.dueFault(6, LOOP + "word b 1;saying 0" + " 0".repeat(39) + " ^1;");
        // Guards and the law have no say in what is told.
        Checks.dueFine("state;state;word a 0;arc 0 0 1;saying 0 0;", LOOP + "law 0;saying 0 0;");
    }
}
