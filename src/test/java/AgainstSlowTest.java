import java.util.ArrayList;
import java.util.List;
import java.util.Random;

/** Random museums, faulty texts and calls: the class and its slow twin must answer alike. */
public final class AgainstSlowTest {
    private static final String[] NAMES = Twins.NAMES;
    private static final int[] MANY = {9, 10, 11, 9, 10, 9, 12};

    private final Random random;
    private final List<String> log = new ArrayList<>();
    private final Twins twins = new Twins();
    private int wrong;
    private static final int[] faultsFound = new int[7];
    private static int calls;

    private AgainstSlowTest(long seed) {
        random = new Random(seed);
    }

    public static void main(String[] args) {
        int runs = args.length > 0 ? Integer.parseInt(args[0]) : 1500;
        int wrong = 0;
        for (int seed = 0; seed < runs && wrong < 5; seed++) {
            wrong += new AgainstSlowTest(seed).play(seed);
        }
        System.out.println(calls + " calls compared; texts without a fault and with each one: "
                + java.util.Arrays.toString(faultsFound));
        for (int found : faultsFound) {
            if (found < 10) {
                System.out.println("some fault is hardly ever met");
                wrong++;
            }
        }
        System.exit(wrong == 0 ? 0 : 1);
    }

    private int play(int seed) {
        boolean readsMuch = seed % 3 == 0;
        tell(new Texts(random).museum());
        for (int i = 0; i < 300 && wrong == 0; i++) {
            if (random.nextInt(readsMuch ? 4 : 120) == 0) {
                String text = new Texts(random).museum();
                tell(random.nextInt(5) == 0 && !readsMuch ? text : new Texts(random).spoil(text));
            } else {
                compare(NAMES[random.nextInt(5) == 0 ? MANY[random.nextInt(MANY.length)]
                        : 2 + random.nextInt(NAMES.length - 2)], 0);
            }
            if (random.nextInt(100) == 0) {
                compare(NAMES[random.nextInt(2)], 0);
            }
            if (random.nextInt(80) == 0) {
                undoAndShow(random.nextInt(50));
            }
        }
        return wrong;
    }

    private void undoAndShow(int times) {
        for (int i = 0; i < times; i++) {
            compare("undo", 0);
        }
        for (int saying = 0; saying < twins.slow.count(3); saying++) {
            for (int i = -3; i <= 40; i++) {
                compare("saying", saying, i);
            }
        }
    }

    private void tell(String text) {
        byte[] bytes = new byte[(text.length() + 19) / 20 * 20];
        for (int i = 0; i < bytes.length; i++) {
            bytes[i] = (byte) (i < text.length() ? text.charAt(i) : ' ');
        }
        log.add("TEXT " + text);
        // What odd calls have left on the tape is thrown away.
        twins.fast.museum(0);
        twins.slow.museum(0);
        java.nio.IntBuffer ints = java.nio.ByteBuffer.wrap(bytes).asIntBuffer();
        while (ints.hasRemaining()) {
            compare("feed", ints.get(), ints.get(), ints.get(), ints.get(), ints.get());
        }
        long answer = compare("museum", Math.min(text.length(), 700));
        if (answer >= 0) {
            faultsFound[(int) answer]++;
        }
        compare("fault", 0);
    }

    private int near(int most) {
        int r = random.nextInt(40);
        return r == 0 ? -1 - random.nextInt(4) : r == 1 ? most + random.nextInt(3)
                : r == 2 ? random.nextInt() : random.nextInt(Math.max(1, most));
    }

    private long compare(String name, int... given) {
        int[] a = {0, 0, 0, 0, 0};
        if (given.length == 1 && !name.equals("museum") || name.equals("museum") && given[0] == 0) {
            a = arguments(name);
        } else {
            System.arraycopy(given, 0, a, 0, given.length);
        }
        boolean flag = random.nextBoolean();
        calls++;
        long got = twins.fastAnswer(name, a, flag);
        long want = twins.slowAnswer(name, a, flag);
        log.add(name + java.util.Arrays.toString(a) + flag + " -> " + want);
        if (got != want) {
            wrong++;
            System.out.println(String.join("\n", log));
            System.out.println("answered " + got + ", due is " + want);
        }
        return want;
    }

    private int[] arguments(String name) {
        int states = twins.slow.count(0);
        int words = twins.slow.count(1);
        int sayings = twins.slow.count(3);
        int two = near(2);
        return switch (name) {
            case "feed" -> new int[] {random.nextInt(), random.nextInt(), random.nextInt(), 0, -1};
            case "museum" -> new int[] {near(30), 0, 0, 0, 0};
            case "count" -> new int[] {near(15), 0, 0, 0, 0};
            case "letter" -> new int[] {near(words), random.nextInt(11) - 2, 0, 0, 0};
            case "kind", "about" -> new int[] {near(words), 0, 0, 0, 0};
            case "arc" -> new int[] {near(states), near(8), 0, 0, 0};
            case "saying", "mend", "take" -> new int[] {near(sayings), random.nextInt(20) - 4, 0, 0, 0};
            case "may", "begun", "cost" -> new int[] {near(sayings), 0, 0, 0, 0};
            case "add", "see", "days" -> new int[] {near(sayings), near(words), 0, 0, 0};
            case "fly" -> new int[] {near(sayings), random.nextInt(14) - 1, near(words), 0, 0};
            case "open", "must", "crimes", "doors" -> new int[] {near(states), 0, 0, 0, 0};
            case "soonest" -> new int[] {near(states), random.nextInt(8) - 2, 0, 0, 0};
            case "ways" -> new int[] {near(states), random.nextInt(15) - 1, 0, 0, 0};
            case "turn" -> new int[] {near(states), two, 0, 0, 0};
            case "costs" -> new int[] {near(states), random.nextInt(63) - 1, random.nextInt(44) - 2, 0, 0};
            case "odds" -> new int[] {near(twins.slow.count(4)), near(sayings), near(words), two, 0};
            case "who" -> new int[] {two, 0, 0, 0, 0};
            case "alike" -> new int[] {near(sayings), near(sayings), 0, 0, 0};
            case "culprit" -> new int[] {near(sayings), two, 0, 0, 0};
            case "season" -> new int[] {random.nextInt(), near(61), random.nextInt(sayings + 3) - 1, 0, 0};
            case "far" -> new int[] {near(states), near(states), 0, 0, 0};
            case "shared" -> new int[] {near(sayings), near(sayings), two, 0, 0};
            case "often" -> new int[] {near(sayings), near(8), 0, 0, 0};
            default -> new int[] {0, 0, 0, 0, 0};
        };
    }
}
