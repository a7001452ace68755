import java.util.ArrayList;
import java.util.List;
import java.util.NoSuchElementException;
import java.util.Random;

/** Random museums, faulty texts and calls: the class and its slow twin must answer alike. */
public final class AgainstSlowTest {
    private static final String[] NAMES = {"feed", "museum", "fault", "count", "letter", "kind", "arc",
        "saying", "may", "add", "fly", "take", "day", "undo", "open", "soonest", "must", "ways", "turn",
        "costs", "closed", "odds", "see", "forget", "who", "begun", "alike", "nearest", "culprit",
        "season", "crimes", "doors", "far", "days", "mend", "shared", "about", "often", "cost", "image",
        "restore"};
    private static final long REFUSED = Long.MIN_VALUE;
    private static final int[] MANY = {9, 10, 11, 9, 10, 9, 12};

    private final Random random;
    private final List<String> log = new ArrayList<>();
    private OpenSaying fast = new OpenSaying();
    private SlowMuseum slow = new SlowMuseum();
    private int wrong;
    private static final int[] faultsFound = new int[7];
    private static int calls;

    private AgainstSlowTest(long seed) {
        random = new Random(seed);
    }

    public static void main(String[] args) {
        int runs = args.length > 0 ? Integer.parseInt(args[0]) : 1500;
        int wrong = 0;
        for (int seed = 0; seed < runs && wrong < 5; seed++) {
            wrong += new AgainstSlowTest(seed).play(seed);
        }
        System.out.println(calls + " calls compared; texts without a fault and with each one: "
                + java.util.Arrays.toString(faultsFound));
        for (int found : faultsFound) {
            if (found < 10) {
                System.out.println("some fault is hardly ever met");
                wrong++;
            }
        }
        System.exit(wrong == 0 ? 0 : 1);
    }

    private int play(int seed) {
        boolean readsMuch = seed % 3 == 0;
        tell(new Texts(random).museum());
        for (int i = 0; i < 300 && wrong == 0; i++) {
            if (random.nextInt(readsMuch ? 4 : 120) == 0) {
                String text = new Texts(random).museum();
                tell(random.nextInt(5) == 0 && !readsMuch ? text : new Texts(random).spoil(text));
            } else {
                compare(NAMES[random.nextInt(5) == 0 ? MANY[random.nextInt(MANY.length)]
                        : 2 + random.nextInt(NAMES.length - 2)], 0);
            }
            if (random.nextInt(100) == 0) {
                compare(NAMES[random.nextInt(2)], 0);
            }
            if (random.nextInt(80) == 0) {
                undoAndShow(random.nextInt(50));
            }
        }
        return wrong;
    }

    private void undoAndShow(int times) {
        for (int i = 0; i < times; i++) {
            compare("undo", 0);
        }
        for (int saying = 0; saying < slow.count(3); saying++) {
            for (int i = -3; i <= 40; i++) {
                compare("saying", saying, i);
            }
        }
    }

    private void tell(String text) {
        byte[] bytes = new byte[(text.length() + 19) / 20 * 20];
        for (int i = 0; i < bytes.length; i++) {
            bytes[i] = (byte) (i < text.length() ? text.charAt(i) : ' ');
        }
        log.add("TEXT " + text);
        // What odd calls have left on the tape is thrown away.
        fast.museum(0);
        slow.museum(0);
        java.nio.IntBuffer ints = java.nio.ByteBuffer.wrap(bytes).asIntBuffer();
        while (ints.hasRemaining()) {
            compare("feed", ints.get(), ints.get(), ints.get(), ints.get(), ints.get());
        }
        long answer = compare("museum", Math.min(text.length(), 700));
        if (answer >= 0) {
            faultsFound[(int) answer]++;
        }
        compare("fault", 0);
    }

    private int near(int most) {
        int r = random.nextInt(40);
        return r == 0 ? -1 - random.nextInt(4) : r == 1 ? most + random.nextInt(3)
                : r == 2 ? random.nextInt() : random.nextInt(Math.max(1, most));
    }

    private long compare(String name, int... given) {
        int[] a = {0, 0, 0, 0, 0};
        if (given.length == 1 && !name.equals("museum") || name.equals("museum") && given[0] == 0) {
            a = arguments(name);
        } else {
            System.arraycopy(given, 0, a, 0, given.length);
        }
        boolean flag = random.nextBoolean();
        calls++;
        long got = fastAnswer(name, a, flag);
        long want = slowAnswer(name, a, flag);
        log.add(name + java.util.Arrays.toString(a) + flag + " -> " + want);
        if (got != want) {
            wrong++;
            System.out.println(String.join("\n", log));
            System.out.println("answered " + got + ", due is " + want);
        }
        return want;
    }

    private int[] arguments(String name) {
        int states = slow.count(0);
        int words = slow.count(1);
        int sayings = slow.count(3);
        int two = near(2);
        return switch (name) {
            case "feed" -> new int[] {random.nextInt(), random.nextInt(), random.nextInt(), 0, -1};
            case "museum" -> new int[] {near(30), 0, 0, 0, 0};
            case "count" -> new int[] {near(15), 0, 0, 0, 0};
            case "letter" -> new int[] {near(words), random.nextInt(11) - 2, 0, 0, 0};
            case "kind", "about" -> new int[] {near(words), 0, 0, 0, 0};
            case "arc" -> new int[] {near(states), near(8), 0, 0, 0};
            case "saying", "mend", "take" -> new int[] {near(sayings), random.nextInt(20) - 4, 0, 0, 0};
            case "may", "begun", "cost" -> new int[] {near(sayings), 0, 0, 0, 0};
            case "add", "see", "days" -> new int[] {near(sayings), near(words), 0, 0, 0};
            case "fly" -> new int[] {near(sayings), random.nextInt(14) - 1, near(words), 0, 0};
            case "open", "must", "crimes", "doors" -> new int[] {near(states), 0, 0, 0, 0};
            case "soonest" -> new int[] {near(states), random.nextInt(8) - 2, 0, 0, 0};
            case "ways" -> new int[] {near(states), random.nextInt(15) - 1, 0, 0, 0};
            case "turn" -> new int[] {near(states), two, 0, 0, 0};
            case "costs" -> new int[] {near(states), random.nextInt(63) - 1, random.nextInt(44) - 2, 0, 0};
            case "odds" -> new int[] {near(slow.count(4)), near(sayings), near(words), two, 0};
            case "who" -> new int[] {two, 0, 0, 0, 0};
            case "alike" -> new int[] {near(sayings), near(sayings), 0, 0, 0};
            case "culprit" -> new int[] {near(sayings), two, 0, 0, 0};
            case "season" -> new int[] {random.nextInt(), near(61), random.nextInt(sayings + 3) - 1, 0, 0};
            case "far" -> new int[] {near(states), near(states), 0, 0, 0};
            case "shared" -> new int[] {near(sayings), near(sayings), two, 0, 0};
            case "often" -> new int[] {near(sayings), near(8), 0, 0, 0};
            default -> new int[] {0, 0, 0, 0, 0};
        };
    }

    private long fastAnswer(String name, int[] a, boolean flag) {
        try {
            return switch (name) {
                case "feed" -> fast.feed(a[0], a[1], a[2], a[3], a[4]);
                case "museum" -> fast.museum(a[0]);
                case "fault" -> fast.fault();
                case "count" -> fast.count(a[0]);
                case "letter" -> fast.letter(a[0], a[1]);
                case "kind" -> fast.kind(a[0]);
                case "arc" -> fast.arc(a[0], a[1]);
                case "saying" -> fast.saying(a[0], a[1]);
                case "may" -> fast.may(a[0]);
                case "add" -> fast.add(a[0], a[1]);
                case "fly" -> fast.fly(a[0], a[1], a[2]);
                case "take" -> fast.take(a[0], a[1]);
                case "day" -> fast.day();
                case "undo" -> fast.undo();
                case "open" -> fast.open(a[0]);
                case "soonest" -> fast.soonest(a[0], a[1]);
                case "must" -> fast.must(a[0]);
                case "ways" -> fast.ways(a[0], a[1], flag);
                case "turn" -> fast.turn(a[0], a[1]);
                case "costs" -> fast.costs(a[0], a[1], a[2]);
                case "closed" -> fast.closed();
                case "odds" -> fast.odds(a[0], a[1], a[2], a[3]);
                case "see" -> fast.see(a[0], a[1]);
                case "forget" -> { fast.forget(); yield 0; }
                case "who" -> fast.who(a[0]);
                case "begun" -> fast.begun(a[0]);
                case "alike" -> fast.alike(a[0], a[1]);
                case "nearest" -> fast.nearest();
                case "culprit" -> fast.culprit(a[0], a[1]);
                case "season" -> fast.season(a[0], a[1], a[2]);
                case "crimes" -> fast.crimes(a[0]);
                case "doors" -> fast.doors(a[0]);
                case "far" -> fast.far(a[0], a[1]);
                case "days" -> fast.days(a[0], a[1]);
                case "mend" -> fast.mend(a[0], a[1]);
                case "shared" -> fast.shared(a[0], a[1], a[2]);
                case "about" -> fast.about(a[0]);
                case "often" -> fast.often(a[0], a[1]);
                case "cost" -> fast.cost(a[0]);
                case "image" -> { fast.image(); yield 0; }
                case "restore" -> fast.restore() ? 1 : 0;
                default -> throw new AssertionError(name);
            };
        } catch (NoSuchElementException e) {
            return REFUSED;
        } catch (IllegalArgumentException e) {
            return REFUSED + 1;
        }
    }

    private long slowAnswer(String name, int[] a, boolean flag) {
        try {
            return switch (name) {
                case "feed" -> slow.feed(a[0], a[1], a[2], a[3], a[4]);
                case "museum" -> slow.museum(a[0]);
                case "fault" -> slow.fault();
                case "count" -> slow.count(a[0]);
                case "letter" -> slow.letter(a[0], a[1]);
                case "kind" -> slow.kind(a[0]);
                case "arc" -> slow.arc(a[0], a[1]);
                case "saying" -> slow.saying(a[0], a[1]);
                case "may" -> slow.may(a[0]);
                case "add" -> slow.add(a[0], a[1]);
                case "fly" -> slow.fly(a[0], a[1], a[2]);
                case "take" -> slow.take(a[0], a[1]);
                case "day" -> slow.day();
                case "undo" -> slow.undo();
                case "open" -> slow.open(a[0]);
                case "soonest" -> slow.soonest(a[0], a[1]);
                case "must" -> slow.must(a[0]);
                case "ways" -> slow.ways(a[0], a[1], flag);
                case "turn" -> slow.turn(a[0], a[1]);
                case "costs" -> slow.costs(a[0], a[1], a[2]);
                case "closed" -> slow.closed();
                case "odds" -> slow.odds(a[0], a[1], a[2], a[3]);
                case "see" -> slow.see(a[0], a[1]);
                case "forget" -> { slow.forget(); yield 0; }
                case "who" -> slow.who(a[0]);
                case "begun" -> slow.begun(a[0]);
                case "alike" -> slow.alike(a[0], a[1]);
                case "nearest" -> slow.nearest();
                case "culprit" -> slow.culprit(a[0], a[1]);
                case "season" -> slow.season(a[0], a[1], a[2]);
                case "crimes" -> slow.crimes(a[0]);
                case "doors" -> slow.doors(a[0]);
                case "far" -> slow.far(a[0], a[1]);
                case "days" -> slow.days(a[0], a[1]);
                case "mend" -> slow.mend(a[0], a[1]);
                case "shared" -> slow.shared(a[0], a[1], a[2]);
                case "about" -> slow.about(a[0]);
                case "often" -> slow.often(a[0], a[1]);
                case "cost" -> slow.cost(a[0]);
                case "image" -> { slow.image(); yield 0; }
                case "restore" -> slow.restore() ? 1 : 0;
                default -> throw new AssertionError(name);
            };
        } catch (NoSuchElementException e) {
            return REFUSED;
        } catch (IllegalArgumentException e) {
            return REFUSED + 1;
        }
    }
}
