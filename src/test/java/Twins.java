import java.util.NoSuchElementException;

/** The class and its slow twin side by side, each call told by its name and numbers. */
final class Twins {
    static final String[] NAMES = {"feed", "museum", "fault", "count", "letter", "kind", "arc",
        "saying", "may", "add", "fly", "take", "day", "undo", "open", "soonest", "must", "ways", "turn",
        "costs", "closed", "odds", "see", "forget", "who", "begun", "alike", "nearest", "culprit",
        "season", "crimes", "doors", "far", "days", "mend", "shared", "about", "often", "cost", "image",
        "restore"};
    // No call answers these two: they stand for NoSuchElementException and IllegalArgumentException.
    private static final long REFUSED = Long.MIN_VALUE;

    final OpenSaying fast = new OpenSaying();
    final SlowMuseum slow = new SlowMuseum();

    long fastAnswer(String name, int[] a, boolean flag) {
        try {
            return switch (name) {
                case "feed" -> fast.feed(a[0], a[1], a[2], a[3], a[4]);
                case "museum" -> fast.museum(a[0]);
                case "fault" -> fast.fault();
                case "count" -> fast.count(a[0]);
                case "letter" -> fast.letter(a[0], a[1]);
                case "kind" -> fast.kind(a[0]);
                case "arc" -> fast.arc(a[0], a[1]);
                case "saying" -> fast.saying(a[0], a[1]);
                case "may" -> fast.may(a[0]);
                case "add" -> fast.add(a[0], a[1]);
                case "fly" -> fast.fly(a[0], a[1], a[2]);
                case "take" -> fast.take(a[0], a[1]);
                case "day" -> fast.day();
                case "undo" -> fast.undo();
                case "open" -> fast.open(a[0]);
                case "soonest" -> fast.soonest(a[0], a[1]);
                case "must" -> fast.must(a[0]);
                case "ways" -> fast.ways(a[0], a[1], flag);
                case "turn" -> fast.turn(a[0], a[1]);
                case "costs" -> fast.costs(a[0], a[1], a[2]);
                case "closed" -> fast.closed();
                case "odds" -> fast.odds(a[0], a[1], a[2], a[3]);
                case "see" -> fast.see(a[0], a[1]);
                case "forget" -> { fast.forget(); yield 0; }
                case "who" -> fast.who(a[0]);
                case "begun" -> fast.begun(a[0]);
                case "alike" -> fast.alike(a[0], a[1]);
                case "nearest" -> fast.nearest();
                case "culprit" -> fast.culprit(a[0], a[1]);
                case "season" -> fast.season(a[0], a[1], a[2]);
                case "crimes" -> fast.crimes(a[0]);
                case "doors" -> fast.doors(a[0]);
                case "far" -> fast.far(a[0], a[1]);
                case "days" -> fast.days(a[0], a[1]);
                case "mend" -> fast.mend(a[0], a[1]);
                case "shared" -> fast.shared(a[0], a[1], a[2]);
                case "about" -> fast.about(a[0]);
                case "often" -> fast.often(a[0], a[1]);
                case "cost" -> fast.cost(a[0]);
                case "image" -> { fast.image(); yield 0; }
                case "restore" -> fast.restore() ? 1 : 0;
                default -> throw new AssertionError(name);
            };
        } catch (NoSuchElementException e) {
            return REFUSED;
        } catch (IllegalArgumentException e) {
            return REFUSED + 1;
        }
    }

    long slowAnswer(String name, int[] a, boolean flag) {
        try {
            return switch (name) {
                case "feed" -> slow.feed(a[0], a[1], a[2], a[3], a[4]);
                case "museum" -> slow.museum(a[0]);
                case "fault" -> slow.fault();
                case "count" -> slow.count(a[0]);
                case "letter" -> slow.letter(a[0], a[1]);
                case "kind" -> slow.kind(a[0]);
                case "arc" -> slow.arc(a[0], a[1]);
                case "saying" -> slow.saying(a[0], a[1]);
                case "may" -> slow.may(a[0]);
                case "add" -> slow.add(a[0], a[1]);
                case "fly" -> slow.fly(a[0], a[1], a[2]);
                case "take" -> slow.take(a[0], a[1]);
                case "day" -> slow.day();
                case "undo" -> slow.undo();
                case "open" -> slow.open(a[0]);
                case "soonest" -> slow.soonest(a[0], a[1]);
                case "must" -> slow.must(a[0]);
                case "ways" -> slow.ways(a[0], a[1], flag);
                case "turn" -> slow.turn(a[0], a[1]);
                case "costs" -> slow.costs(a[0], a[1], a[2]);
                case "closed" -> slow.closed();
                case "odds" -> slow.odds(a[0], a[1], a[2], a[3]);
                case "see" -> slow.see(a[0], a[1]);
                case "forget" -> { slow.forget(); yield 0; }
                case "who" -> slow.who(a[0]);
                case "begun" -> slow.begun(a[0]);
                case "alike" -> slow.alike(a[0], a[1]);
                case "nearest" -> slow.nearest();
                case "culprit" -> slow.culprit(a[0], a[1]);
                case "season" -> slow.season(a[0], a[1], a[2]);
                case "crimes" -> slow.crimes(a[0]);
                case "doors" -> slow.doors(a[0]);
                case "far" -> slow.far(a[0], a[1]);
                case "days" -> slow.days(a[0], a[1]);
                case "mend" -> slow.mend(a[0], a[1]);
                case "shared" -> slow.shared(a[0], a[1], a[2]);
                case "about" -> slow.about(a[0]);
                case "often" -> slow.often(a[0], a[1]);
                case "cost" -> slow.cost(a[0]);
                case "image" -> { slow.image(); yield 0; }
                case "restore" -> slow.restore() ? 1 : 0;
                default -> throw new AssertionError(name);
            };
        } catch (NoSuchElementException e) {
            return REFUSED;
        } catch (IllegalArgumentException e) {
            return REFUSED + 1;
        }
    }
}
