import java.util.ArrayList;
import java.util.List;
import java.util.NoSuchElementException;
import java.util.function.Consumer;

/**
 * Two objects with the same calls behind them, but for one: then both must answer the same, also what only later calls
 * show: the ACTS, one by one, the image, and the tape. No object gets more than 512 calls.
 */
final class Twins {
    static final int NO_STATUS = -1;

    private static final int FIRST_STATUS = 8;
    private static final int LAST_STATUS = 10;

    private Twins() {
    }

    /** Four people, with something of all that an object may hold. */
    static SockFair worked() {
        SockFair x = new SockFair();
        x.fair(Check.tape(x, "sock"));
        x.fair(Check.tape(x, "plain 1 0 10 0 5;plain 2 0 11 1 9;striped 1 1 10 0 3;argyle 9 2 30 6 0;"
            + "alike 14-colours-sizes-holes-wool;likes alike*2+charm;"));
        x.fair(Check.tape(x, "plain 1"));
        x.hold(1);
        x.dye(2, 2);
        x.bind(1, 3);
        x.see(0, 1, 2);
        x.image();
        x.see(1, 3, -1);
        x.unravel(1);
        x.darn(3, 2);
        x.hold(0);
        x.see(0, 0, 1);
        Check.tape(x, "heeled 4 3 2 1 0;");
        return x;
    }

    /** The call leaves all as it was, but for one more in a STATUS (0 to 2), or not even that. */
    static void stays(Check check, String call, Consumer<SockFair> what, int status) {
        stays(check, call, what, status, true);
    }

    /** As above, but for the tape and the place of the FAULT. */
    static void staysButTape(Check check, String call, Consumer<SockFair> what, int status) {
        stays(check, call, what, status, false);
    }

    private static void stays(Check check, String call, Consumer<SockFair> what, int status, boolean withTape) {
        SockFair x = worked();
        SockFair y = worked();
        try {
            what.accept(x);
        } catch (IllegalArgumentException | NoSuchElementException e) {
            check.same(call + " throws and counts as refused", status, NO_STATUS);
        }
        for (int i = FIRST_STATUS; i <= LAST_STATUS; i++) {
            int more = i - FIRST_STATUS == status ? 1 : 0;
            check.same("behind " + call + " count(" + i + ")", x.count(i), y.count(i) + more);
        }
        Look got = new Look(x);
        Look due = new Look(y);
        got.all(withTape);
        due.all(withTape);
        got.mustBe(check, "behind " + call + " ", due);
    }

    /** What was asked ahead of a call makes no difference to what is answered behind it. */
    static void forgetsAnswers(Check check, String call, Consumer<SockFair> what) {
        SockFair x = worked();
        SockFair y = worked();
        new Look(x).now();
        what.accept(x);
        what.accept(y);
        Look got = new Look(x);
        Look due = new Look(y);
        got.now();
        // Nothing was asked of the other one but this: each answer is figured from what stands.
        due.now();
        got.mustBe(check, "asked ahead of " + call + " and behind it, ", due);
    }

    /** Answers with the names of their calls. */
    private static final class Look {
        private final SockFair x;
        private final List<String> names = new ArrayList<>();
        private final List<Long> answers = new ArrayList<>();

        Look(SockFair x) {
            this.x = x;
        }

        void mustBe(Check check, String when, Look due) {
            check.same(when + "as much is looked at", names.size(), due.names.size());
            for (int i = 0; i < answers.size() && i < due.answers.size(); i++) {
                check.same(when + due.names.get(i), answers.get(i), due.answers.get(i));
            }
        }

        private void note(String name, long answer) {
            names.add(name);
            answers.add(answer);
        }

        /** What stands now, then what can be undone and restored, and the tape. */
        void all(boolean withTape) {
            if (withTape) {
                note("fault()", x.fault());
                note("count(7)", x.count(7));
            }
            now();
            acts("undone ");
            note("restore()", x.restore() ? 1 : 0);
            note("dyed(0) of the image", x.dyed(0));
            note("seen of the image", x.count(6));
            acts("undone of the image ");
            if (withTape) {
                int bytes = x.count(7);
                note("bytes of the tape", bytes);
                note("fair of the tape", x.fair(bytes));
                people(6);
            }
        }

        void now() {
            for (int what = 0; what < 7; what++) {
                note("count(" + what + ")", x.count(what));
            }
            people(9);
            likenesses();
            int people = x.count(0);
            for (int one = 0; one < people; one++) {
                note("then(" + one + ", 3)", x.then(one, 3));
                note("most(" + one + ")", x.most(one));
                note("rests(" + one + ")", x.rests(one));
                note("mates(" + one + ")", x.mates(one));
                note("way(" + one + ", ., 1)", x.way(one, (one + 1) % people, 1));
                note("lasts(" + one + ")", x.lasts(one));
            }
            if (people > 0) {
                note("knit(0)", x.knit(0));
            }
            for (int what = 0; what <= 2; what++) {
                note("dyed(" + what + ")", x.dyed(what));
            }
            note("next(0)", x.next(0));
            note("next(1)", x.next(1));
            note("couples(2)", x.couples(2));
            note("single(4)", x.single(4));
            note("closest()", x.closest());
            note("lonely()", x.lonely());
            note("faithful()", x.faithful());
            note("best()", x.best());
            note("rests(-1)", x.rests(-1));
            note("ring()", x.ring());
            note("circles()", x.circles());
            note("colour(1)", x.colour(1));
            note("darner()", x.darner());
            note("generations(5, 9, 2)", x.generations(5, 9, 2));
        }

        private void likenesses() {
            int people = x.count(0);
            for (int one = 0; one < people; one++) {
                for (int other = one; other < people; other++) {
                    note("alike(" + one + ", " + other + ")", x.alike(one, other));
                    note("liking(" + other + ", " + one + ")", x.liking(other, one));
                }
            }
        }

        private void people(int whats) {
            int people = x.count(0);
            for (int one = 0; one < people; one++) {
                for (int what = 0; what < whats; what++) {
                    note("person(" + one + ", " + what + ")", x.person(one, what));
                }
            }
        }

        private void acts(String when) {
            int people = x.count(0);
            for (int i = 0; i < 6; i++) {
                note(when + i + ": undo()", x.undo());
                note(when + i + ": count(1)", x.count(1));
                note(when + i + ": count(2)", x.count(2));
                note(when + i + ": count(3)", x.count(3));
                for (int one = 0; one < people; one++) {
                    note(when + i + ": colour of " + one, x.person(one, 0));
                }
            }
        }
    }
}
