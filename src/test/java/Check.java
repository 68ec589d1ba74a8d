import java.io.IOException;
import java.nio.charset.StandardCharsets;
import java.nio.file.Files;
import java.nio.file.Path;
import java.util.Arrays;
import java.util.TreeSet;

/** What the tests share: texts onto tapes, and answers against what is due. */
final class Check {
    /** Five people; ALIKE without a rule: 01 is 12, 02 10, 04 5, 12 7, 14 6, 24 0, all of 3 far below 0. */
    static final String FIVE =
        "plain 1 0 10 0 5;plain 2 0 11 1 9;striped 1 1 10 0 3;argyle 9 2 30 0 0;plain 1 0 12 8 7;";

    /** One of PEOPLE, in 16 bytes; two such are ALIKE by 15. */
    static final String P = "plain 0 0 1 0 0;";

    private static final Path DOCUMENT = Path.of("../shared/DOC.md");

    interface Call {
        long answer();
    }

    private int wrong;
    private int asked;
    private int sentences;
    private String sentence = "";
    private final TreeSet<Integer> promises = new TreeSet<>();

    /** What is asked from here on is what a promise says in these words, which must stand there. */
    void promise(int number, String words) {
        promises.add(number);
        sentenceOf("## Promise " + number + ":", words);
    }

    /** What is asked from here on is what 'Terms' says in these words, which must stand there. */
    void terms(String words) {
        sentenceOf("## Terms", words);
    }

    private void sentenceOf(String heading, String words) {
        sentences++;
        sentence = "";
        // Without the document beside the project its words can't be compared; what is due stands here all the same.
        if (hasDocument()) {
            same("'" + words + "' stands behind " + heading, partOf(document(), heading).contains(words), true);
        }
        sentence = heading.substring(3) + " '" + words + "' ";
    }

    static boolean hasDocument() {
        return Files.exists(DOCUMENT);
    }

    static String document() {
        try {
            return Files.readString(DOCUMENT, StandardCharsets.UTF_8);
        } catch (IOException e) {
            throw new IllegalStateException("the document can't be read", e);
        }
    }

    static String partOf(String document, String heading) {
        int from = document.indexOf("\n" + heading);
        if (from < 0) {
            return "";
        }
        int to = document.indexOf("\n## ", from + 1);
        return document.substring(from, to < 0 ? document.length() : to);
    }

    /** Every promise from one on, up to another one, was named. */
    void namesPromises(int from, int to) {
        sentence = "";
        for (int number = from; number <= to; number++) {
            same("promise " + number + " is named", promises.contains(number), true);
        }
    }

    void same(String call, long got, long due) {
        asked++;
        if (got != due) {
            wrong++;
            System.out.println(sentence + call + " answered " + got + ", due is " + due);
        }
    }

    void same(String call, boolean got, boolean due) {
        same(call, got ? 1 : 0, due ? 1 : 0);
    }

    /** The call must throw just this exception. */
    void thrown(String call, Class<?> due, Call what) {
        asked++;
        String got;
        try {
            got = "answered " + what.answer();
        } catch (RuntimeException e) {
            if (e.getClass() == due) {
                return;
            }
            got = "threw " + e.getClass().getSimpleName();
        }
        wrong++;
        System.out.println(sentence + call + " " + got + ", due is " + due.getSimpleName());
    }

    void none(String call, Call what) {
        thrown(call, java.util.NoSuchElementException.class, what);
    }

    void illegal(String call, Call what) {
        thrown(call, IllegalArgumentException.class, what);
    }

    void end(String name) {
        System.out.println(name + ": " + asked + " answers, " + wrong + " wrong"
            + (sentences > 0 ? ", of " + sentences + " sentences" : ""));
        if (wrong != 0 || asked == 0) {
            System.exit(1);
        }
    }

    /** Puts a text on the tape, with blanks behind it: how many bytes it has itself. */
    static int tape(SockFair x, String text) {
        byte[] bytes = text.getBytes(StandardCharsets.ISO_8859_1);
        for (int at = 0; at < bytes.length; at += 20) {
            byte[] twenty = new byte[20];
            Arrays.fill(twenty, (byte) ' ');
            System.arraycopy(bytes, at, twenty, 0, Math.min(20, bytes.length - at));
            int[] numbers = new int[5];
            for (int i = 0; i < 20; i++) {
                numbers[i / 4] = numbers[i / 4] << 8 | twenty[i] & 255;
            }
            x.feed(numbers[0], numbers[1], numbers[2], numbers[3], numbers[4]);
        }
        return bytes.length;
    }

    /** A new object with a text that has no fault. */
    SockFair of(String text) {
        SockFair x = new SockFair();
        same("fair of " + text, x.fair(tape(x, text)), 0);
        return x;
    }

    void fault(String text, int code, int place) {
        SockFair x = new SockFair();
        same("fair of " + text, x.fair(tape(x, text)), code);
        same("fault of " + text, x.fault(), place);
    }

    void good(String text) {
        fault(text, 0, -1);
    }
}
