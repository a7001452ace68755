import java.lang.reflect.Array;
import java.lang.reflect.Field;
import java.lang.reflect.Modifier;
import java.nio.file.Files;
import java.nio.file.Path;
import java.util.ArrayDeque;
import java.util.Collections;
import java.util.IdentityHashMap;
import java.util.Random;
import java.util.Set;

/** One object holds little, and 512 calls make it hold no more: all calls of a run live in one room. */
public final class RoomTest {
    private static final int MOST_OBJECTS = 100;
    private static final int MOST_HELD = 7000;
    private static final int CALLS = 512;

    private static int wrong;

    private RoomTest() {
    }

    public static void main(String[] args) throws Exception {
        heldIsLittle();
        nothingIsMadeByCalls(Files.readString(Path.of("src/main/java/OpenSaying.java")));
        System.exit(wrong == 0 ? 0 : 1);
    }

    private static void need(boolean holds, String what) {
        if (!holds) {
            wrong++;
            System.out.println("not so: " + what);
        }
    }

    private static void heldIsLittle() throws Exception {
        Twins twins = new Twins();
        Set<Object> held = heldBy(twins.fast);
        int size = 0;
        for (Object o : held) {
            size += o.getClass().isArray() ? Array.getLength(o) : fieldsOf(o);
        }
        System.out.println("one object holds " + held.size() + " objects, " + size + " fields and elements");
        need(held.size() <= MOST_OBJECTS && size <= MOST_HELD, "it holds little");
        Random random = new Random(42);
        for (int i = 0; i < CALLS; i++) {
            if (i % 64 == 0) {
                String text = new Texts(random).museum();
                Checks.tell(twins.fast, text.substring(0, Math.min(text.length(), 700)));
            }
            int[] small = random.ints(5, -1, 5).toArray();
            twins.fastAnswer(Twins.NAMES[random.nextInt(Twins.NAMES.length)], small, i % 2 == 0);
        }
        need(heldBy(twins.fast).equals(held), "it holds the same objects behind " + CALLS + " calls");
    }

    private static int fieldsOf(Object o) {
        int fields = 0;
        for (Field f : o.getClass().getDeclaredFields()) {
            fields += Modifier.isStatic(f.getModifiers()) ? 0 : 1;
        }
        return fields;
    }

    private static Set<Object> heldBy(Object first) throws Exception {
        Set<Object> held = Collections.newSetFromMap(new IdentityHashMap<>());
        ArrayDeque<Object> open = new ArrayDeque<>();
        open.add(first);
        while (!open.isEmpty()) {
            Object o = open.poll();
            if (held.add(o) && !o.getClass().isArray()) {
                for (Field f : o.getClass().getDeclaredFields()) {
                    if (!Modifier.isStatic(f.getModifiers()) && !f.getType().isPrimitive()) {
                        f.setAccessible(true);
                        open.add(f.get(o));
                    }
                }
            }
        }
        return held;
    }

    /** Outside of fields and constructors, which are of the object's making, only exceptions are made. */
    private static void nothingIsMadeByCalls(String text) {
        String[] lines = text.split("\n");
        for (int i = 0; i < lines.length; i++) {
            String line = lines[i].strip();
            need(!line.matches("(?!//|/\\*).*\\bnew\\b.*") || line.matches("(private )?final .* = new .*")
                    || line.matches("this\\.\\w+ = new .*") || line.contains("throw new "), "line " + (i + 1) + " makes nothing");
        }
    }
}
