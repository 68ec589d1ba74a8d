import java.util.ArrayList;
import java.util.List;
import java.util.NoSuchElementException;
import java.util.function.Consumer;

/**
 * Two objects with the same calls behind them. One is told something more that must leave all as it was; then both
 * must answer the same, also what only later calls show: the ACTS, one by one, the image, and the tape.
 */
final class Twins {
    static final int NO_STATUS = -1;

    private static final int FIRST_STATUS = 8;
    private static final int LAST_STATUS = 10;

    private Twins() {
    }

    /** Four people, with something of all that an object may hold. At most 40 calls. */
    static SockFair worked() {
        SockFair x = new SockFair();
        x.fair(Check.tape(x, "sock"));
        x.fair(Check.tape(x, "plain 1 0 10 0 5;plain 2 0 11 1 9;striped 1 1 10 0 3;argyle 9 2 30 6 0;"
            + "alike 14-colours-sizes-holes-wool;likes alike*2+charm;"));
        x.fair(Check.tape(x, "plain 1"));
        x.hold(1);
        x.dye(2, 2);
        x.bind(1, 3);
        x.see(0, 1, 2);
        x.image();
        x.see(1, 3, -1);
        x.unravel(1);
        x.darn(3, 2);
        x.hold(0);
        x.see(0, 0, 1);
        Check.tape(x, "heeled 4 3 2 1 0;");
        return x;
    }

    /** The call leaves all as it was, but for one more in a STATUS (0 to 2), or not even that. */
    static void stays(Check check, String call, Consumer<SockFair> what, int status) {
        stays(check, call, what, status, true);
    }

    /** As above, but for the tape and the place of the FAULT. */
    static void staysButTape(Check check, String call, Consumer<SockFair> what, int status) {
        stays(check, call, what, status, false);
    }

    private static void stays(Check check, String call, Consumer<SockFair> what, int status, boolean withTape) {
        SockFair x = worked();
        SockFair y = worked();
        try {
            what.accept(x);
        } catch (IllegalArgumentException | NoSuchElementException e) {
            check.same(call + " throws and counts as refused", status, NO_STATUS);
        }
        for (int i = FIRST_STATUS; i <= LAST_STATUS; i++) {
            int more = i - FIRST_STATUS == status ? 1 : 0;
            check.same("behind " + call + " count(" + i + ")", x.count(i), y.count(i) + more);
        }
        List<String> names = new ArrayList<>();
        List<Long> got = look(x, new ArrayList<>(), withTape);
        List<Long> due = look(y, names, withTape);
        check.same("behind " + call + " as much is looked at", got.size(), due.size());
        for (int i = 0; i < got.size() && i < due.size(); i++) {
            check.same("behind " + call + " " + names.get(i), got.get(i), due.get(i));
        }
    }

    private static List<Long> look(SockFair x, List<String> names, boolean withTape) {
        List<Long> seen = new ArrayList<>();
        if (withTape) {
            lookAt("fault()", x.fault(), names, seen);
            lookAt("count(7)", x.count(7), names, seen);
        }
        for (int what = 0; what < 7; what++) {
            lookAt("count(" + what + ")", x.count(what), names, seen);
        }
        lookAtPeople(x, 9, names, seen);
        int people = x.count(0);
        for (int one = 0; one < people; one++) {
            for (int other = 0; other < people; other++) {
                lookAt("alike(" + one + ", " + other + ")", x.alike(one, other), names, seen);
                lookAt("liking(" + one + ", " + other + ")", x.liking(one, other), names, seen);
            }
            lookAt("then(" + one + ", 3)", x.then(one, 3), names, seen);
        }
        for (int what = 0; what <= 2; what++) {
            lookAt("dyed(" + what + ")", x.dyed(what), names, seen);
        }
        lookAt("couples(2)", x.couples(2), names, seen);
        lookAt("rests(-1)", x.rests(-1), names, seen);
        lookAt("next(0)", x.next(0), names, seen);
        lookAtActs("undone ", x, names, seen);
        lookAt("restore()", x.restore() ? 1 : 0, names, seen);
        lookAt("dyed(0) of the image", x.dyed(0), names, seen);
        lookAt("seen of the image", x.count(6), names, seen);
        lookAtActs("undone of the image ", x, names, seen);
        if (withTape) {
            lookAtTape(x, names, seen);
        }
        return seen;
    }

    private static void lookAt(String name, long answer, List<String> names, List<Long> seen) {
        names.add(name);
        seen.add(answer);
    }

    private static void lookAtPeople(SockFair x, int whats, List<String> names, List<Long> seen) {
        int people = x.count(0);
        for (int one = 0; one < people; one++) {
            for (int what = 0; what < whats; what++) {
                lookAt("person(" + one + ", " + what + ")", x.person(one, what), names, seen);
            }
        }
    }

    private static void lookAtActs(String when, SockFair x, List<String> names, List<Long> seen) {
        int people = x.count(0);
        for (int i = 0; i < 6; i++) {
            lookAt(when + i + ": undo()", x.undo(), names, seen);
            lookAt(when + i + ": count(1)", x.count(1), names, seen);
            lookAt(when + i + ": count(2)", x.count(2), names, seen);
            lookAt(when + i + ": count(3)", x.count(3), names, seen);
            for (int one = 0; one < people; one++) {
                lookAt(when + i + ": colour of " + one, x.person(one, 0), names, seen);
            }
        }
    }

    private static void lookAtTape(SockFair x, List<String> names, List<Long> seen) {
        int bytes = x.count(7);
        lookAt("bytes of the tape", bytes, names, seen);
        lookAt("fair of the tape", x.fair(bytes), names, seen);
        lookAtPeople(x, 6, names, seen);
    }
}
