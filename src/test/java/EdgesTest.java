import java.util.Arrays;

/** Every call with every number that stands at an edge of something, in several museums, against the slow twin. */
public final class EdgesTest {
    private static final int[] EDGES = {Integer.MIN_VALUE, -4, -3, -2, -1, 0, 1, 2, 3, 4, 5, 6, 7, 8, 9, 10, 12, 13,
        14, 15, 20, 21, 38, 39, 40, 41, 59, 60, 61, 699, 700, 701, Integer.MAX_VALUE};
    // For calls of four numbers.
    private static final int[] FEWER = {Integer.MIN_VALUE, -2, -1, 0, 1, 2, 3, 4, 5, 13, 14, Integer.MAX_VALUE};
    private static final String CATS = "state;state;state end;state;word cat 0;word eats 1;word fish 0;word and 2;"
            + "word stop 3;arc 0 0 1;arc 1 1 2;arc 2 0 1;arc 2 2 0;arc 1 3 3;cost 2 2;habit letters;habit kind=0;";
    private static final String MOST = "state;".repeat(9) + "state end;" + letters() + "arc 9 0 0;arc 9 1 5;cost 1 0;"
            + "habit word;habit same+1;habit 99-letters;habit rhymes*day;law not (word=3 and day=0);";

    private static int calls;
    private static int wrong;

    private EdgesTest() {
    }

    public static void main(String[] args) {
        String[] texts = {"", "state;", "word a 0;", CATS,
            CATS + "saying 0 0 1;saying 0 2;saying 1 1 3 0;law not (same and kind=1);",
            "state;word a 0;arc 0 0 0;habit 1;saying 0" + " 0".repeat(40) + ";saying 0" + " 0".repeat(39) + ";saying 0;",
            MOST + "saying 0;saying 9;saying 9 1 0;saying 0 0 2 4;saying 5 0 0 0 0;"};
        for (String text : texts) {
            for (int flies = 0; flies < 2; flies++) {
                for (String name : Twins.NAMES) {
                    atEveryEdge(name, text, flies == 1);
                }
            }
        }
        System.out.println(calls + " calls compared, " + wrong + " wrong");
        System.exit(wrong == 0 ? 0 : 1);
    }

    /** 14 words of two kinds, and arcs by which one comes from each of the ten states to the next one. */
    private static String letters() {
        StringBuilder text = new StringBuilder();
        for (int word = 0; word < 14; word++) {
            text.append("word " + "x".repeat(word % 8) + (char) ('a' + word) + " " + word % 2 + ";");
        }
        for (int state = 0; state < 9; state++) {
            text.append("arc " + state + " 0 " + (state + 1) + ";");
        }
        return text.toString();
    }

    private static Twins told(String text, boolean flies) {
        Twins twins = new Twins();
        byte[] bytes = Arrays.copyOf(text.getBytes(java.nio.charset.StandardCharsets.ISO_8859_1), (text.length() + 19) / 20 * 20);
        java.nio.IntBuffer ints = java.nio.ByteBuffer.wrap(bytes).asIntBuffer();
        while (ints.hasRemaining()) {
            int[] five = {ints.get(), ints.get(), ints.get(), ints.get(), ints.get()};
            compare(twins, "feed", five);
        }
        compare(twins, "museum", new int[] {text.length()});
        if (twins.slow.fault() != SlowMuseum.NONE) {
            throw new IllegalStateException("a fault at " + twins.slow.fault() + " in " + text);
        }
        if (flies) {
            int last = Math.max(0, twins.slow.count(1) - 1);
            for (int saying = 0; saying < twins.slow.count(3); saying += 2) {
                compare(twins, "take", new int[] {saying, 0});
                compare(twins, "fly", new int[] {saying, 0, last});
                compare(twins, "see", new int[] {saying, last});
            }
            compare(twins, "day", new int[0]);
            compare(twins, "image", new int[0]);
        }
        return twins;
    }

    private static int numbers(String name) {
        return switch (name) {
            case "fault", "day", "undo", "closed", "forget", "nearest", "image", "restore" -> 0;
            case "museum", "count", "kind", "may", "open", "must", "who", "begun", "crimes", "doors", "about", "cost" -> 1;
            case "fly", "costs", "season", "shared" -> 3;
            case "odds" -> 4;
            case "feed" -> 5;
            default -> 2;
        };
    }

    private static void atEveryEdge(String name, String text, boolean flies) {
        Twins twins = told(text, flies);
        int many = numbers(name);
        if (many == 5) {
            for (int i = 0; i < 40; i++) {
                compare(twins, name, new int[] {i, -i, Integer.MIN_VALUE + i, Integer.MAX_VALUE - i, 0x20202020});
            }
            return;
        }
        int[] edges = many == 4 ? FEWER : EDGES;
        int[] at = new int[many];
        boolean more = true;
        while (more) {
            compare(twins, name, Arrays.stream(at).map(i -> edges[i]).toArray());
            int turned = 0;
            while (turned < many && ++at[turned] == edges.length) {
                at[turned++] = 0;
            }
            more = turned < many;
        }
        compare(twins, name, new int[many]);
    }

    private static void compare(Twins twins, String name, int[] numbers) {
        int[] five = Arrays.copyOf(numbers, 5);
        for (boolean flag : new boolean[] {false, true}) {
            if (!flag || name.equals("ways")) {
                calls++;
                long got = twins.fastAnswer(name, five, flag);
                long want = twins.slowAnswer(name, five, flag);
                if (got != want) {
                    wrong++;
                    System.out.println(name + Arrays.toString(numbers) + flag + " answered " + got + ", due is " + want);
                }
            }
        }
    }
}
