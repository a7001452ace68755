import java.nio.ByteBuffer;
import java.nio.IntBuffer;
import java.nio.charset.StandardCharsets;
import java.util.NoSuchElementException;
import java.util.function.LongSupplier;

/** What the tests of the promises share: telling a text, and comparing what is due. */
final class Checks {
    static final int NONE = OpenSaying.NONE;

    private static int checked;
    private static int wrong;
    private static int promise;

    private Checks() {
    }

    static void promise(int number) {
        promise = number;
    }

    static void due(long want, LongSupplier call) {
        String got;
        try {
            got = "" + call.getAsLong();
        } catch (RuntimeException e) {
            got = e.getClass().getSimpleName();
        }
        compare("" + want, got);
    }

    static void dueNoSuch(LongSupplier... calls) {
        dueThrown(NoSuchElementException.class, calls);
    }

    static void dueIllegal(LongSupplier... calls) {
        dueThrown(IllegalArgumentException.class, calls);
    }

    private static void dueThrown(Class<?> want, LongSupplier... calls) {
        for (LongSupplier call : calls) {
            String got;
            try {
                got = "" + call.getAsLong();
            } catch (RuntimeException e) {
                got = e.getClass().getSimpleName();
            }
            compare(want.getSimpleName(), got);
        }
    }

    private static void compare(String want, String got) {
        checked++;
        if (!want.equals(got)) {
            wrong++;
            StackTraceElement at = null;
            for (StackTraceElement e : new Throwable().getStackTrace()) {
                if (at == null && !e.getClassName().equals("Checks")) {
                    at = e;
                }
            }
            System.out.println("promise " + promise + ", " + at + ": answered " + got + ", due is " + want);
        }
    }

    /** Feeds a text and makes a museum of it: what museum() answers. */
    static int tell(OpenSaying x, String text) {
        feed(x, text);
        return x.museum(text.length());
    }

    static int feed(OpenSaying x, String text) {
        byte[] bytes = text.getBytes(StandardCharsets.ISO_8859_1);
        IntBuffer ints = ByteBuffer.wrap(java.util.Arrays.copyOf(bytes, (bytes.length + 19) / 20 * 20)).asIntBuffer();
        int answer = 0;
        while (ints.hasRemaining()) {
            answer = x.feed(ints.get(), ints.get(), ints.get(), ints.get(), ints.get());
        }
        return answer;
    }

    static OpenSaying of(String text) {
        OpenSaying x = new OpenSaying();
        int fault = tell(x, text);
        if (fault != 0) {
            throw new IllegalStateException("fault " + fault + " at " + x.fault() + " in " + text);
        }
        return x;
    }

    /** A text must have a fault of this number at this place. */
    static void dueFault(int number, int place, String text) {
        OpenSaying x = new OpenSaying();
        due(number, () -> tell(x, text));
        due(place, () -> x.fault());
    }

    static void dueFine(String text) {
        dueFault(0, NONE, text);
    }

    static void end() {
        System.out.println(checked + " answers compared, " + wrong + " wrong");
        System.exit(wrong == 0 ? 0 : 1);
    }
}
