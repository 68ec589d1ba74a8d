import java.nio.charset.StandardCharsets;
import java.util.Arrays;

/** What the tests share: texts onto tapes, and answers against what is due. */
final class Check {
    /** Five people; ALIKE without a rule: 01 is 12, 02 10, 04 5, 12 7, 14 6, 24 0, all of 3 far below 0. */
    static final String FIVE =
        "plain 1 0 10 0 5;plain 2 0 11 1 9;striped 1 1 10 0 3;argyle 9 2 30 0 0;plain 1 0 12 8 7;";

    interface Call {
        long answer();
    }

    private int wrong;
    private int asked;

    void same(String call, long got, long due) {
        asked++;
        if (got != due) {
            wrong++;
            System.out.println(call + " answered " + got + ", due is " + due);
        }
    }

    void same(String call, boolean got, boolean due) {
        same(call, got ? 1 : 0, due ? 1 : 0);
    }

    /** The call must throw just this exception. */
    void thrown(String call, Class<?> due, Call what) {
        asked++;
        String got;
        try {
            got = "answered " + what.answer();
        } catch (RuntimeException e) {
            if (e.getClass() == due) {
                return;
            }
            got = "threw " + e.getClass().getSimpleName();
        }
        wrong++;
        System.out.println(call + " " + got + ", due is " + due.getSimpleName());
    }

    void none(String call, Call what) {
        thrown(call, java.util.NoSuchElementException.class, what);
    }

    void illegal(String call, Call what) {
        thrown(call, IllegalArgumentException.class, what);
    }

    void end(String name) {
        System.out.println(name + ": " + asked + " answers, " + wrong + " wrong");
        if (wrong != 0 || asked == 0) {
            System.exit(1);
        }
    }

    /** Puts a text on the tape, with blanks behind it: how many bytes it has itself. */
    static int tape(SockFair x, String text) {
        byte[] bytes = text.getBytes(StandardCharsets.ISO_8859_1);
        for (int at = 0; at < bytes.length; at += 20) {
            byte[] twenty = new byte[20];
            Arrays.fill(twenty, (byte) ' ');
            System.arraycopy(bytes, at, twenty, 0, Math.min(20, bytes.length - at));
            int[] numbers = new int[5];
            for (int i = 0; i < 20; i++) {
                numbers[i / 4] = numbers[i / 4] << 8 | twenty[i] & 255;
            }
            x.feed(numbers[0], numbers[1], numbers[2], numbers[3], numbers[4]);
        }
        return bytes.length;
    }

    /** A new object with a text that has no fault. */
    SockFair of(String text) {
        SockFair x = new SockFair();
        same("fair of " + text, x.fair(tape(x, text)), 0);
        return x;
    }

    void fault(String text, int code, int place) {
        SockFair x = new SockFair();
        same("fair of " + text, x.fair(tape(x, text)), code);
        same("fault of " + text, x.fault(), place);
    }
}
