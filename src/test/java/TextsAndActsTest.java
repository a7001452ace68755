/** Promises 1 to 15: texts and their faults, what stands in a museum, acts and how they are undone. */
public final class TextsAndActsTest {
    private static final int NONE = Checks.NONE;

    // Word 4 leads from state 1 to state 3, where nothing follows.
    static final String CATS = "state;state;state end;state;word cat 0;word eats 1;word fish 0;"
            + "word and 2;word stop 3;arc 0 0 1;arc 1 1 2;arc 2 0 1;arc 2 2 0;arc 1 3 3;cost 2 2;";
    // One state to which every word leads back.
    static final String LOOP = "state;word a 0;word bb 0;word ccc 1;arc 0 0 0;arc 0 1 0;";

    private TextsAndActsTest() {
    }

    public static void main(String[] args) {
        newObject();
        feeding();
        museums();
        faultsOfTokens();
        faultsOfLines();
        faultsOfTooMuch();
        faultsOfRules();
        faultsAheadOfOthers();
        whatStaysAndGoes();
        counts();
        lettersKindsArcs();
        sayings();
        whatMayCome();
        valuesOfRules();
        adding();
        flies();
        taking();
        daysComing();
        undoing();
        Checks.end();
    }

    private static void newObject() {
        Checks.promise(1);
        OpenSaying x = new OpenSaying();
        for (int what = 0; what <= 14; what++) {
            int w = what;
            Checks.due(0, () -> x.count(w));
        }
        Checks.due(NONE, () -> x.fault());
        Checks.dueNoSuch(() -> x.may(0), () -> x.open(0), () -> x.kind(0), () -> x.saying(0, NONE));
        Checks.due(0, () -> x.restore() ? 1 : 0);
        Checks.due(NONE, () -> x.undo());
    }

    private static void feeding() {
        Checks.promise(2);
        OpenSaying x = new OpenSaying();
        for (int i = 1; i <= 35; i++) {
            int bytes = 20 * i;
            Checks.due(bytes, () -> x.feed(0x73746174, 0x653b2020, 0x20202020, 0x20202020, 0x20202020));
        }
        Checks.due(NONE, () -> x.feed(1, 2, 3, 4, 5));
        Checks.due(700, () -> x.count(8));
        // The whole tape is a text: 35 states are too many, the 11th at byte 200.
        Checks.due(2, () -> x.museum(700));
        Checks.due(200, () -> x.fault());
        Checks.due(20, () -> x.feed(0xff000000, 0, 0, 0, 0));
        Checks.due(1, () -> x.museum(20));
        Checks.due(0, () -> x.fault());
        Checks.due(20, () -> x.feed(0x20202020, 0x2020200a, 0x0a202061, 0x80000000, 0));
        Checks.due(1, () -> x.museum(20));
        Checks.due(11, () -> x.fault());
    }

    private static void museums() {
        Checks.promise(3);
        OpenSaying x = new OpenSaying();
        Checks.dueIllegal(() -> x.museum(1), () -> x.museum(-1), () -> x.museum(Integer.MIN_VALUE));
        Checks.due(0, () -> x.museum(0));
        Checks.due(20, () -> Checks.feed(x, "state;state;x"));
        Checks.dueIllegal(() -> x.museum(21), () -> x.museum(-1));
        Checks.due(20, () -> x.count(8));
        Checks.due(0, () -> x.museum(12));
        Checks.due(0, () -> x.count(8));
        Checks.due(2, () -> x.count(0));
        Checks.due(0, () -> x.museum(0));
        Checks.due(0, () -> x.count(0));
        Checks.dueFine("");
        Checks.dueFine(" \n \n");
        Checks.dueFine("state;state end;\n word end 0 ; word state 7;word word 0;arc 1 7 0;cost 0 9;cost 7 0;");
        Checks.dueFine("state end ;arc 0 0000 0;arc 0 0007 0;word a0;saying 00 0 0 0;");
    }

    private static void faultsOfTokens() {
        Checks.promise(4);
        Checks.dueFault(1, 0, "comma;");
        Checks.dueFault(1, 0, ";");
        Checks.dueFault(1, 0, "7;");
        Checks.dueFault(1, 2, " \n\tstate;");
        Checks.dueFault(1, 5, "stateA;");
        Checks.dueFault(1, 5, "state\r;");
        Checks.dueFault(1, 6, "state;\u0000");
        Checks.dueFault(1, 6, "state;\u00ff");
        Checks.dueFault(1, 0, "states;");
        Checks.dueFault(1, 0, "stat;");
        Checks.dueFault(1, 5, "state");
        Checks.dueFault(1, 8, "state   ");
        Checks.dueFault(1, 6, "state open;");
        Checks.dueFault(1, 10, "state end end;");
        Checks.dueFault(1, 6, "state 0;");
        Checks.dueFault(1, 6, "state;;");
    }

    private static void faultsOfLines() {
        Checks.dueFault(1, 5, "word 5 0;");
        Checks.dueFault(1, 4, "word;");
        Checks.dueFault(1, 8, "word cat;");
        Checks.dueFault(1, 9, "word cat dog;");
        Checks.dueFault(1, 11, "word cat 0 1;");
        Checks.dueFault(4, 14, "word a 0;word a 1;");
        Checks.dueFine("word a 0;word ab 0;word b 0;word aa 0;");
        Checks.dueFault(3, 4, "arc 0 0 0;");
        Checks.dueFault(3, 10, "state;arc 1 0 0;");
        Checks.dueFault(3, 10, "state;arc 9999 0 0;");
        Checks.dueFault(3, 14, "state;arc 0 0 1;state;");
        Checks.dueFault(1, 10, "state;arc x 0 0;");
        Checks.dueFault(1, 13, "state;arc 0 0;");
        Checks.dueFault(4, 22, "state;arc 0 0 0;arc 0 0 9;");
        Checks.dueFault(4, 14, "cost 1 1;cost 1 2;");
        Checks.dueFault(1, 6, "cost 1;");
        Checks.dueFault(1, 5, "cost -1 1;");
        Checks.dueFault(3, 7, "saying 0;");
        Checks.dueFault(1, 6, "saying;");
        Checks.dueFault(3, 15, "state;saying 0 0;word a 0;arc 0 0 0;");
        Checks.dueFault(6, 24, "state;word a 0;saying 0 0;arc 0 0 0;");
        Checks.dueFault(1, 24, "state;word a 0;saying 0 a;");
        Checks.dueFault(1, 23, "state;word a 0;saying 0");
        Checks.dueFault(6, 42, "state;state;word a 0;arc 0 0 1;saying 0 0 0;");
        Checks.dueFine("state;state;word a 0;arc 0 0 1;saying 0 0;arc 1 0 1;saying 0 0 0 0;");
        Checks.dueFault(5, 6, "law 1;law 2;");
        Checks.dueFault(5, 6, "law 1;law");
    }

    private static void faultsOfTooMuch() {
        Checks.dueFine("word abcdefghi 0;");
        Checks.dueFault(2, 5, "word abcdefghij 0;");
        Checks.dueFine("word cat 7;");
        Checks.dueFault(2, 9, "word cat 8;");
        Checks.dueFault(2, 9, "word cat 00000;");
        Checks.dueFault(2, 12, "state;arc 0 8 0;");
        Checks.dueFault(2, 10, "state;arc 00000 0 0;");
        Checks.dueFault(2, 5, "cost 8 1;");
        Checks.dueFault(2, 7, "cost 1 10;");
        Checks.dueFault(2, 7, "cost 1 99999999999999;");
        Checks.dueFine("state;".repeat(10));
        Checks.dueFault(2, 60, "state;".repeat(11));
        Checks.dueFault(2, 126, words(15));
        Checks.dueFine(words(14));
        Checks.dueFault(2, 264, arcs(25));
        Checks.dueFine(arcs(24));
        Checks.dueFine("state;" + "saying 0;".repeat(5));
        Checks.dueFault(2, 51, "state;" + "saying 0;".repeat(6));
        Checks.dueFine("habit 1;".repeat(4));
        Checks.dueFault(2, 32, "habit 1;".repeat(5));
        String loop = "state;word a 0;arc 0 0 0;saying 0";
        Checks.dueFine(loop + " 0".repeat(40) + ";");
        Checks.dueFault(2, loop.length() + 81, loop + " 0".repeat(41) + ";");
        // Of one token the least: it isn't told either.
        Checks.dueFault(2, loop.length() + 81, loop + " 0".repeat(40) + " 7;");
        Checks.dueFault(1, loop.length() + 81, loop + " 0".repeat(40) + " a;");
    }

    private static String words(int howMany) {
        StringBuilder text = new StringBuilder();
        for (int i = 0; i < howMany; i++) {
            text.append("word ").append((char) ('a' + i)).append(" 0;");
        }
        return text.toString();
    }

    private static String arcs(int howMany) {
        StringBuilder text = new StringBuilder("state;state;state;state;");
        for (int i = 0; i < howMany; i++) {
            text.append("arc ").append(i / 8).append(' ').append(i % 8).append(" 0;");
        }
        return text.toString();
    }

    private static void faultsOfRules() {
        Checks.dueFault(1, 3, "law;");
        Checks.dueFault(1, 5, "habit;");
        Checks.dueFault(1, 5, "law 1");
        Checks.dueFault(1, 8, "habit (1;");
        Checks.dueFault(1, 7, "habit 1);");
        Checks.dueFault(1, 7, "habit ();");
        Checks.dueFault(1, 8, "habit 1 2;");
        Checks.dueFault(1, 8, "habit 1 kind;");
        Checks.dueFault(1, 8, "habit 1 not 2;");
        Checks.dueFault(1, 8, "habit 1 (2);");
        Checks.dueFault(1, 9, "habit 1<2<3;");
        Checks.dueFault(1, 9, "habit 1=2<3;");
        Checks.dueFault(1, 6, "habit -1;");
        Checks.dueFault(1, 8, "habit 1+*2;");
        Checks.dueFault(1, 8, "habit 1+;");
        Checks.dueFault(1, 8, "habit 1 ");
        Checks.dueFault(3, 4, "law verb;");
        Checks.dueFault(3, 4, "law and;");
        Checks.dueFault(3, 4, "law end 1;");
        Checks.dueFault(3, 4, "law kinds;");
        Checks.dueFault(3, 8, "habit 1+not 2;");
        Checks.dueFault(3, 8, "habit 1<not 2;");
        Checks.dueFault(3, 10, "habit not and 1;");
        Checks.dueFault(3, 4, "law abcdefghijk;");
        Checks.dueFine("law 9999;");
        Checks.dueFault(2, 6, "habit 12345;");
        Checks.dueFault(1, 8, "habit 1 12345;");
        Checks.dueFine("habit not not not not not not 1;");
        Checks.dueFault(2, 30, "habit not not not not not not not 1;");
        Checks.dueFine("habit not not not not not not (not not not not not not 1) and not not 1;");
        Checks.dueFine("habit (((((1)))));");
        Checks.dueFault(2, 12, "habit ((((((1))))));");
        Checks.dueFault(2, 12, "habit ((((((verb))))));");
        Checks.dueFault(2, 12, "habit ((((((not 1))))));");
        Checks.dueFault(2, 12, "habit (((((((1)))))));");
        Checks.dueFault(2, 12, "habit ((((((123456))))));");
        Checks.dueFault(1, 12, "habit (((((()))))));");
        Checks.dueFault(1, 12, "habit ((((((;");
        Checks.dueFault(1, 12, "habit ((((((");
        Checks.dueFine("habit (((((1)))))+(((((1))))) or (((((1)))));");
        Checks.dueFine("law not kind<letters and(word or day)=long*same/rhymes-2+1;");
    }

    private static void faultsAheadOfOthers() {
        Checks.dueFault(2, 9, "word cat 8 A");
        Checks.dueFault(1, 5, "word A abcdefghij 0;");
        Checks.dueFault(2, 60, "state;".repeat(10) + "state 5");
        OpenSaying x = new OpenSaying();
        Checks.due(2, () -> Checks.tell(x, "word a 8;"));
        Checks.dueIllegal(() -> x.museum(1));
        Checks.due(7, () -> x.fault());
        Checks.due(0, () -> x.museum(0));
        Checks.due(NONE, () -> x.fault());
    }

    private static void whatStaysAndGoes() {
        Checks.promise(3);
        OpenSaying x = Checks.of(CATS + "saying 0 0;habit 1;");
        x.day();
        x.see(0, 1);
        x.image();
        x.add(0, 1);
        x.take(0, 9);
        Checks.due(1, () -> Checks.tell(x, "state;state;oops"));
        Checks.due(0, () -> x.count(8));
        Checks.due(4, () -> x.count(0));
        Checks.due(1, () -> x.count(5));
        Checks.due(2, () -> x.count(6));
        Checks.due(1, () -> x.count(7));
        Checks.due(2, () -> x.saying(0, NONE));
        Checks.due(1, () -> x.restore() ? 1 : 0);
        Checks.due(0, () -> Checks.tell(x, "state;saying 0;"));
        int[] anew = {1, 0, 0, 1, 0, 0, 0, 0, 0, 1, 1, 0, 0, 0, 0};
        for (int what = 0; what < anew.length; what++) {
            int w = what;
            Checks.due(anew[w], () -> x.count(w));
        }
        Checks.due(0, () -> x.restore() ? 1 : 0);
        Checks.due(NONE, () -> x.undo());
        Checks.dueNoSuch(() -> x.kind(0), () -> x.odds(0, 0, 0, 0));
        // Costs, arcs and the law are gone as well.
        Checks.due(0, () -> Checks.tell(x, LOOP + "cost 0 5;law 0;saying 0 0;"));
        Checks.due(5, () -> x.cost(0));
        Checks.due(0, () -> x.may(0));
        Checks.due(0, () -> Checks.tell(x, "state;word a 0;word b 1;arc 0 0 0;saying 0 0;"));
        Checks.due(1, () -> x.cost(0));
        Checks.due(1, () -> x.may(0));
        Checks.due(NONE, () -> x.arc(0, 1));
    }

    private static void counts() {
        Checks.promise(5);
        OpenSaying x = Checks.of(CATS + "state end;saying 0 0 1;saying 1;habit 1;habit 2;habit 3;");
        x.day();
        x.fly(1, 0, 0);
        x.see(0, 0);
        x.see(0, 0);
        x.see(0, 0);
        x.see(0, 0);
        x.add(1, 0);
        x.add(1, 0);
        x.feed(0, 0, 0, 0, 0);
        int[] want = {5, 5, 5, 2, 3, 1, 2, 3, 20, 0, 2, 1, 1, 20, 2};
        for (int what = 0; what < want.length; what++) {
            int w = what;
            Checks.due(want[w], () -> x.count(w));
        }
        x.museum(20);
        Checks.due(1, () -> x.count(9));
        Checks.dueNoSuch(() -> x.count(15), () -> x.count(-1), () -> x.count(Integer.MIN_VALUE));
    }

    private static void lettersKindsArcs() {
        OpenSaying x = Checks.of("state;state;word az 3;word abcdefghi 7;arc 0 3 1;arc 1 7 0;");
        Checks.promise(6);
        Checks.due(2, () -> x.letter(0, NONE));
        Checks.due(1, () -> x.letter(0, 0));
        Checks.due(26, () -> x.letter(0, 1));
        Checks.due(9, () -> x.letter(1, NONE));
        Checks.due(9, () -> x.letter(1, 8));
        Checks.dueNoSuch(() -> x.letter(0, 2), () -> x.letter(1, 9), () -> x.letter(0, -2),
                () -> x.letter(2, 0), () -> x.letter(-1, 0), () -> x.letter(14, NONE));
        Checks.promise(7);
        Checks.due(3, () -> x.kind(0));
        Checks.due(7, () -> x.kind(1));
        Checks.dueNoSuch(() -> x.kind(2), () -> x.kind(-1), () -> x.kind(14));
        Checks.promise(8);
        Checks.due(1, () -> x.arc(0, 3));
        Checks.due(0, () -> x.arc(1, 7));
        Checks.due(NONE, () -> x.arc(1, 3));
        Checks.due(NONE, () -> x.arc(0, 0));
        Checks.dueNoSuch(() -> x.arc(2, 0), () -> x.arc(-1, 0), () -> x.arc(0, 8), () -> x.arc(0, -1),
                () -> x.arc(10, 3));
    }

    private static void sayings() {
        Checks.promise(9);
        OpenSaying x = Checks.of(CATS + "saying 0 0 1;saying 2;");
        Checks.due(2, () -> x.saying(0, NONE));
        Checks.due(0, () -> x.saying(0, 0));
        Checks.due(1, () -> x.saying(0, 1));
        Checks.due(2, () -> x.saying(0, -2));
        Checks.due(0, () -> x.saying(0, -3));
        Checks.due(0, () -> x.saying(1, NONE));
        Checks.due(2, () -> x.saying(1, -2));
        Checks.due(2, () -> x.saying(1, -3));
        x.fly(0, 1, 0);
        Checks.due(NONE, () -> x.saying(0, -2));
        Checks.due(0, () -> x.saying(0, -3));
        Checks.due(1, () -> x.saying(0, 2));
        Checks.dueNoSuch(() -> x.saying(0, 3), () -> x.saying(0, -4), () -> x.saying(1, 0),
                () -> x.saying(2, 0), () -> x.saying(-1, -1), () -> x.saying(5, -2));
    }

    private static void whatMayCome() {
        Checks.promise(10);
        OpenSaying x = Checks.of(CATS + "saying 0 0 1;saying 0 2;saying 3;");
        Checks.due(13, () -> x.may(0));
        // Word 4 can follow, but none can behind it.
        Checks.due(2, () -> x.may(1));
        Checks.due(0, () -> x.may(2));
        x.fly(0, 0, 4);
        Checks.due(0, () -> x.may(0));
        Checks.dueNoSuch(() -> x.may(3), () -> x.may(-1));
        // An arc of a kind that no word has lets none follow.
        OpenSaying dead = Checks.of("state;state;word a 0;arc 0 0 1;arc 1 1 0;saying 0;");
        Checks.due(0, () -> dead.may(0));
        OpenSaying full = Checks.of(LOOP + "saying 0" + " 0".repeat(39) + ";");
        Checks.due(7, () -> full.may(0));
        full.add(0, 0);
        Checks.due(0, () -> full.may(0));
        OpenSaying law = Checks.of(LOOP + "saying 0;law kind-1;");
        Checks.due(3, () -> law.may(0));
    }

    /** The words a, bb and ccc behind the saying "bb a bb", by one law each. */
    private static void valuesOfRules() {
        dueByLaw(4, "kind");
        dueByLaw(4, "kind=1");
        dueByLaw(1, "letters=1");
        dueByLaw(6, "1<letters");
        dueByLaw(6, "word");
        dueByLaw(0, "day");
        dueByLaw(7, "day=0");
        dueByLaw(7, "long=3");
        dueByLaw(2, "same=2");
        dueByLaw(1, "same=1");
        dueByLaw(2, "rhymes");
        dueByLaw(1, "not word");
        dueByLaw(0, "not not 7=1");
        dueByLaw(7, "(not not 7)=1");
        dueByLaw(6, "not not word");
        dueByLaw(7, "not word<1 or word=0");
        dueByLaw(6, "not (word<1 and 1)");
        dueByLaw(7, "1 or 0 and 0");
        dueByLaw(0, "(1 or 0) and 0");
        dueByLaw(7, "(5 or 0)=1");
        dueByLaw(7, "(5 and 7)=1");
        dueByLaw(7, "(not 5)=0");
        dueByLaw(7, "8-3-2=3");
        dueByLaw(7, "2+3*4=14");
        dueByLaw(7, "100/7/2=7");
        dueByLaw(7, "100/7*2=28");
        dueByLaw(7, "(0-7)/2=0-3");
        dueByLaw(7, "5/0=0");
        dueByLaw(7, "7/(word-word)+1=1");
        dueByLaw(7, "9999*9999*9999<0");
        dueByLaw(7, "9999*9999*9999/9999=0-9999*10-2755");
        // As many joins wait as ever can; each level turns 0 into 1 and 1 into 0.
        String join = "0 or 1 and 1=1+1*(";
        dueByLaw(7, join.repeat(5) + "0" + ")".repeat(5));
        dueByLaw(0, join.repeat(4) + "0" + ")".repeat(4));
        dueByLaw(0, join.repeat(5) + "0 or 1 and 2=1+1*1" + ")".repeat(5));
        OpenSaying first = Checks.of(LOOP + "saying 0;law rhymes or same or long;");
        Checks.due(0, () -> first.may(0));
        OpenSaying rhyme = Checks.of("state;word ab 0;word b 0;word ba 0;arc 0 0 0;saying 0 0;law rhymes;");
        Checks.due(3, () -> rhyme.may(0));
        OpenSaying nine = Checks.of("state;word abcdefghi 0;word i 0;word a 0;arc 0 0 0;saying 0 0;law rhymes;");
        Checks.due(3, () -> nine.may(0));
    }

    private static void dueByLaw(int want, String law) {
        OpenSaying x = Checks.of(LOOP + "saying 0 1 0 1;law " + law + ";");
        Checks.due(want, () -> x.may(0));
    }

    private static void adding() {
        Checks.promise(11);
        OpenSaying x = Checks.of(CATS + "saying 0 0 1;saying 0 2;law not (same and kind=1);");
        Checks.due(3, () -> x.add(0, 0));
        Checks.due(1, () -> x.saying(0, -2));
        Checks.due(1, () -> x.count(6));
        Checks.due(NONE, () -> x.add(0, 1));
        Checks.due(NONE, () -> x.add(1, 4));
        Checks.due(NONE, () -> x.add(1, 0));
        Checks.due(3, () -> x.count(10));
        Checks.due(1, () -> x.count(6));
        Checks.due(2, () -> x.add(1, 1));
        Checks.dueNoSuch(() -> x.add(2, 0), () -> x.add(-1, 0), () -> x.add(0, 5), () -> x.add(0, -1),
                () -> x.add(0, 32));
        Checks.due(3, () -> x.count(10));
        OpenSaying full = Checks.of(LOOP + "saying 0" + " 0".repeat(39) + ";");
        Checks.due(40, () -> full.add(0, 1));
        Checks.due(NONE, () -> full.add(0, 1));
    }

    private static void flies() {
        Checks.promise(12);
        OpenSaying x = Checks.of(CATS + "saying 0 0 1;saying 0;");
        Checks.due(3, () -> x.fly(0, 0, 4));
        Checks.due(4, () -> x.fly(0, 3, 3));
        Checks.due(5, () -> x.fly(0, 2, 2));
        dueRow(x, 0, 4, 0, 2, 1, 3);
        Checks.due(0, () -> x.saying(1, NONE));
        Checks.due(1, () -> x.fly(1, 0, 1));
        Checks.due(NONE, () -> x.fly(0, 6, 0));
        Checks.due(NONE, () -> x.fly(0, -1, 0));
        Checks.due(2, () -> x.count(10));
        Checks.due(4, () -> x.count(6));
        Checks.dueNoSuch(() -> x.fly(2, 0, 0), () -> x.fly(-1, 0, 0), () -> x.fly(0, 0, 5),
                () -> x.fly(0, 9, -1));
        OpenSaying full = Checks.of(LOOP + "saying 0" + " 0".repeat(39) + ";saying 0 2;");
        Checks.due(40, () -> full.fly(0, 0, 1));
        Checks.due(NONE, () -> full.fly(0, 0, 1));
        Checks.due(1, () -> full.saying(0, 0));
        Checks.due(2, () -> full.saying(1, 0));
    }

    private static void taking() {
        Checks.promise(13);
        OpenSaying x = Checks.of(CATS + "saying 0 0 1 2 4;saying 0 2;");
        Checks.due(1, () -> x.take(0, 1));
        dueRow(x, 0, 0, 2, 4);
        Checks.due(4, () -> x.take(0, 2));
        Checks.due(0, () -> x.take(0, 0));
        dueRow(x, 0, 2);
        dueRow(x, 1, 2);
        Checks.due(NONE, () -> x.take(0, 1));
        Checks.due(NONE, () -> x.take(0, -1));
        Checks.due(2, () -> x.count(10));
        Checks.due(3, () -> x.count(6));
        Checks.dueNoSuch(() -> x.take(2, 0), () -> x.take(-1, 0));
    }

    private static void dueRow(OpenSaying x, int saying, int... words) {
        Checks.due(words.length, () -> x.saying(saying, NONE));
        for (int i = 0; i < words.length; i++) {
            int place = i;
            Checks.due(words[i], () -> x.saying(saying, place));
        }
    }

    private static void daysComing() {
        Checks.promise(14);
        OpenSaying x = Checks.of(LOOP + "saying 0;law day=6;");
        for (int day = 1; day <= 6; day++) {
            int d = day;
            Checks.due(0, () -> x.may(0));
            Checks.due(d, () -> x.day());
        }
        Checks.due(7, () -> x.may(0));
        Checks.due(0, () -> x.day());
        Checks.due(7, () -> x.count(6));
    }

    private static void undoing() {
        Checks.promise(15);
        OpenSaying x = Checks.of(CATS + "saying 0 0 1;saying 0;");
        x.add(0, 2);
        x.fly(0, 0, 4);
        x.take(0, 1);
        x.day();
        x.take(0, 9);
        dueRow(x, 0, 4, 1, 2);
        Checks.due(3, () -> x.undo());
        Checks.due(0, () -> x.count(5));
        Checks.due(2, () -> x.undo());
        dueRow(x, 0, 4, 0, 1, 2);
        Checks.due(1, () -> x.undo());
        dueRow(x, 0, 0, 1, 2);
        Checks.due(0, () -> x.undo());
        dueRow(x, 0, 0, 1);
        Checks.due(NONE, () -> x.undo());
        Checks.due(1, () -> x.count(10));
        // Only the latest 40 are kept: the first of 41 stays done.
        OpenSaying y = Checks.of(LOOP + "saying 0 0 1;");
        y.take(0, 0);
        for (int i = 0; i < 39; i++) {
            y.day();
        }
        Checks.due(40, () -> y.count(6));
        y.add(0, 2);
        Checks.due(40, () -> y.count(6));
        for (int left = 39; left >= 0; left--) {
            int l = left;
            Checks.due(l, () -> y.undo());
        }
        Checks.due(NONE, () -> y.undo());
        dueRow(y, 0, 1);
        Checks.due(0, () -> y.count(5));
        undoingManyKinds();
    }

    /** 45 acts of every kind on two sayings: 40 of them can be undone, each as it was done. */
    private static void undoingManyKinds() {
        OpenSaying x = Checks.of(LOOP + "saying 0 0 1;saying 0 2;");
        StringBuilder[] done = {new StringBuilder("01"), new StringBuilder("2")};
        String[] told = new String[46];
        told[0] = "01 2";
        for (int i = 1; i <= 45; i++) {
            int saying = i / 2 % 2;
            StringBuilder row = done[saying];
            int place = i * 7 % (row.length() + 1);
            if (i % 4 == 3 && place < row.length()) {
                x.take(saying, place);
                row.deleteCharAt(place);
            } else if (i % 5 == 0) {
                x.add(saying, i % 3);
                row.append(i % 3);
            } else {
                x.fly(saying, place, i % 3);
                row.insert(place, i % 3);
            }
            told[i] = done[0] + " " + done[1];
        }
        for (int i = 44; i >= 5; i--) {
            int left = i - 5;
            Checks.due(left, () -> x.undo());
            String[] rows = told[i].split(" ", -1);
            dueRow(x, 0, rows[0].chars().map(c -> c - '0').toArray());
            dueRow(x, 1, rows[1].chars().map(c -> c - '0').toArray());
        }
        Checks.due(NONE, () -> x.undo());
    }
}
