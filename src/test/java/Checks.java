import java.io.IOException;
import java.io.UncheckedIOException;
import java.nio.ByteBuffer;
import java.nio.IntBuffer;
import java.nio.charset.StandardCharsets;
import java.nio.file.Files;
import java.nio.file.Path;
import java.util.NoSuchElementException;
import java.util.function.IntToLongFunction;
import java.util.function.LongSupplier;

/** What the tests of the promises share: telling a text, and comparing what is due. */
final class Checks {
    static final int NONE = OpenSaying.NONE;

    private static int checked;
    private static int wrong;
    private static int promise;
    private static String sentence = "";
    private static int sentences;
    private static int checkedAhead;
    private static String document;

    private Checks() {
    }

    static void promise(int number) {
        promise = number;
    }

    /**
     * Begins the test of one sentence of the document, told in its own words: they must stand there,
     * and something must have been compared for the sentence ahead of it.
     */
    static void sentence(int number, String words) {
        endSentence();
        promise = number;
        sentence = words;
        sentences++;
        if (!document().isEmpty() && !document().contains(words)) {
            wrong++;
            System.out.println("promise " + number + ": the document does not say: " + words);
        }
    }

    private static void endSentence() {
        if (!sentence.isEmpty() && checked == checkedAhead) {
            wrong++;
            System.out.println("promise " + promise + ": nothing was compared for: " + sentence);
        }
        checkedAhead = checked;
    }

    /** Empty where the document is not at hand: then its words are not looked up. */
    private static String document() {
        if (document == null) {
            Path path = Path.of("../shared/DOC.md");
            try {
                document = Files.exists(path) ? Files.readString(path).replaceAll("\\s+", " ") : "";
            } catch (IOException e) {
                throw new UncheckedIOException(e);
            }
        }
        return document;
    }

    static void due(long want, LongSupplier call) {
        String got;
        try {
            got = "" + call.getAsLong();
        } catch (RuntimeException e) {
            got = e.getClass().getSimpleName();
        }
        compare("" + want, got);
    }

    static void dueNoSuch(LongSupplier... calls) {
        dueThrown(NoSuchElementException.class, calls);
    }

    static void dueIllegal(LongSupplier... calls) {
        dueThrown(IllegalArgumentException.class, calls);
    }

    private static void dueThrown(Class<?> want, LongSupplier... calls) {
        for (LongSupplier call : calls) {
            String got;
            try {
                got = "" + call.getAsLong();
            } catch (RuntimeException e) {
                got = e.getClass().getSimpleName();
            }
            compare(want.getSimpleName(), got);
        }
    }

    private static void compare(String want, String got) {
        checked++;
        if (!want.equals(got)) {
            wrong++;
            StackTraceElement at = null;
            for (StackTraceElement e : new Throwable().getStackTrace()) {
                if (at == null && !e.getClassName().equals("Checks")) {
                    at = e;
                }
            }
            System.out.println("promise " + promise + (sentence.isEmpty() ? "" : " (" + sentence + ")")
                    + ", " + at + ": answered " + got + ", due is " + want);
        }
    }

    /** Feeds a text and makes a museum of it: what museum() answers. */
    static int tell(OpenSaying x, String text) {
        feed(x, text);
        return x.museum(text.length());
    }

    static int feed(OpenSaying x, String text) {
        byte[] bytes = text.getBytes(StandardCharsets.ISO_8859_1);
        IntBuffer ints = ByteBuffer.wrap(java.util.Arrays.copyOf(bytes, (bytes.length + 19) / 20 * 20)).asIntBuffer();
        int answer = 0;
        while (ints.hasRemaining()) {
            answer = x.feed(ints.get(), ints.get(), ints.get(), ints.get(), ints.get());
        }
        return answer;
    }

    static OpenSaying of(String text) {
        OpenSaying x = new OpenSaying();
        int fault = tell(x, text);
        if (fault != 0) {
            throw new IllegalStateException("fault " + fault + " at " + x.fault() + " in " + text);
        }
        return x;
    }

    /** A text must have a fault of this number at this place. */
    static void dueFault(int number, int place, String text) {
        OpenSaying x = new OpenSaying();
        due(number, () -> tell(x, text));
        due(place, () -> x.fault());
    }

    /** The same, with a ^ ahead of the place, which is no part of the text. */
    static void dueFault(int number, String marked) {
        int place = marked.indexOf('^');
        dueFault(number, place, marked.substring(0, place) + marked.substring(place + 1));
    }

    static void dueFine(String... texts) {
        for (String text : texts) {
            dueFault(0, NONE, text);
        }
    }

    /** What a call answers for 0, 1 and so on. */
    static void dueEach(IntToLongFunction call, long... want) {
        for (int i = 0; i < want.length; i++) {
            int at = i;
            due(want[i], () -> call.applyAsLong(at));
        }
    }

    /** One saying has these words and no more. */
    static void dueWords(OpenSaying x, int saying, int... words) {
        due(words.length, () -> x.saying(saying, NONE));
        for (int i = 0; i < words.length; i++) {
            int place = i;
            due(words[i], () -> x.saying(saying, place));
        }
        dueNoSuch(() -> x.saying(saying, words.length));
    }

    static void end() {
        endSentence();
        System.out.println(checked + " answers compared"
                + (sentences > 0 ? " for " + sentences + " sentences" : "") + ", " + wrong + " wrong");
        System.exit(wrong == 0 ? 0 : 1);
    }
}
