/** The boundary cases of promises 9 to 14, 42 and 43: hold, dye, darn, unravel, bind, undo, image, restore. */
public final class EdgesOfActsTest {
    private static final Check CHECK = new Check();
    private static final String P = Check.P;
    private static final int[] FAR_OFF = {Integer.MIN_VALUE, Integer.MIN_VALUE + 1, -100, 100, Integer.MAX_VALUE - 1, Integer.MAX_VALUE};
    private static final int ACTS = 1;

    public static void main(String[] args) {
        fairsHeld();
        lastYear();
        mostAlikeFirst();
        holesAtAFair();
        wornThrough();
        dyes();
        darns();
        unravels();
        binds();
        undoNone();
        fortyActs();
        lastFirst();
        images();
        imageInPlace();
        imageOfAll();
        imageOfSights();
        asked();
        CHECK.namesPromises(9, 14);
        CHECK.namesPromises(42, 43);
        CHECK.end("EdgesOfActsTest");
    }

    private static void refused(String call, java.util.function.ToIntFunction<SockFair> what) {
        CHECK.same(call, what.applyAsInt(Twins.worked()), -1);
        Twins.stays(CHECK, call, what::applyAsInt, ACTS);
    }

    private static void mates(SockFair x, String when, int... due) {
        for (int one = 0; one < due.length; one++) {
            CHECK.same(when + ", mate of " + one, x.person(one, 6), due[one]);
        }
    }

    // ---- promise 9 ----

    private static void fairsHeld() {
        CHECK.promise(9, "NONE (STATUS 1): not 1 to 20");
        for (int many : new int[] {1, 2, 19, 20}) {
            SockFair x = CHECK.of(P);
            CHECK.same("hold(" + many + ")", x.hold(many), many);
            CHECK.same("the YEAR", x.count(1), many);
            CHECK.same("HOLES", x.person(0, 4), Math.min(9, many));
            CHECK.same("one ACT", x.count(5), 1);
            CHECK.same("not refused", x.count(9), 0);
        }
        for (int many : new int[] {0, -1, 21, 22}) {
            refused("hold(" + many + ")", x -> x.hold(many));
        }
        for (int many : FAR_OFF) {
            refused("hold(" + many + ")", x -> x.hold(many));
        }
    }

    private static SockFair inYear(int year) {
        SockFair x = CHECK.of(P + P);
        int left = year;
        for (int i = 0; i < 50 && left > 0; i++) {
            left -= Math.min(20, left);
            x.hold(Math.min(20, year - x.count(1)));
        }
        CHECK.same("the YEAR", x.count(1), year);
        return x;
    }

    private static void lastYear() {
        CHECK.promise(9, "it would be above 999");
        SockFair x = inYear(980);
        CHECK.same("1000", x.hold(20), -1);
        CHECK.same("the YEAR stays", x.count(1), 980);
        CHECK.same("acts stay", x.count(5), 40);
        CHECK.same("refused", x.count(9), 1);
        CHECK.same("999", x.hold(19), 999);
        CHECK.same("1000", x.hold(1), -1);
        CHECK.same("1019", x.hold(20), -1);
        CHECK.same("so many", x.hold(Integer.MAX_VALUE), -1);
        CHECK.same("so many below 0", x.hold(Integer.MIN_VALUE), -1);
        CHECK.same("the YEAR stays", x.count(1), 999);
        CHECK.same("refused", x.count(9), 5);
        CHECK.same("other ACTS are none of it", x.dye(0, 3), 0);
        x.undo();
        CHECK.same("undo", x.undo(), 38);
        CHECK.same("the YEAR", x.count(1), 980);
        CHECK.same("999 again", x.hold(19), 999);
        SockFair y = inYear(979);
        CHECK.same("999 by 20", y.hold(20), 999);
        SockFair z = inYear(998);
        CHECK.same("1000 by 2", z.hold(2), -1);
        CHECK.same("999 by 1", z.hold(1), 999);
    }

    private static void mostAlikeFirst() {
        CHECK.promise(9, "FAIRS are held: the YEAR");
        CHECK.terms("(of like ones the first by the lesser one, then the other one)");
        SockFair all = CHECK.of(P.repeat(10));
        all.hold(1);
        mates(all, "all like ones", 1, 0, 3, 2, 5, 4, 7, 6, 9, 8);
        // 03, 12 and 02 are like ones: 02 comes ahead of 03 and 12.
        SockFair x = CHECK.of("plain 0 0 5 0 0;plain 0 0 7 0 0;plain 0 0 6 0 0;plain 0 0 4 0 0;alike sizes=1;");
        x.hold(1);
        mates(x, "by the other one", 2, -1, 0, -1);
        // 12 and 03 are like ones, and 01 is none.
        SockFair y = CHECK.of("plain 0 0 5 0 0;plain 0 0 9 0 0;plain 0 0 8 0 0;plain 0 0 4 0 0;alike sizes=1;");
        y.hold(1);
        mates(y, "both", 3, 2, 1, 0);
        CHECK.terms("and so on, until there are none");
        SockFair odd = CHECK.of(P.repeat(9) + "alike 1;");
        odd.hold(1);
        mates(odd, "all but one", 1, 0, 3, 2, 5, 4, 7, 6, -1);
        CHECK.terms("those who are most ALIKE are bound");
        // 12 is 3, 01 and 23 are 2: the middle ones first, then nobody is left for 0 and 3 but each other (1).
        SockFair z = CHECK.of("plain 0 0 1 0 0;plain 2 0 1 0 0;plain 3 0 1 0 0;plain 5 0 1 0 0;alike 4-colours;");
        z.hold(1);
        mates(z, "the middle ones", -1, 2, 1, -1);
        SockFair w = CHECK.of("plain 0 0 1 0 0;plain 2 0 1 0 0;plain 3 0 1 0 0;plain 5 0 1 0 0;alike 6-colours;");
        w.hold(1);
        mates(w, "and those who are left", 3, 2, 1, 0);
        // 1 is more than 0, 0 isn't; who is bound isn't bound anew.
        CHECK.terms("of all couples of PEOPLE who aren't bound, and MAY be");
        for (int given = 0; given <= 1; given++) {
            SockFair v = CHECK.of(P + P + "alike " + given + ";");
            v.hold(1);
            mates(v, "by " + given, given == 1 ? 1 : -1, given == 1 ? 0 : -1);
        }
        SockFair u = CHECK.of(P + P + "argyle 9 0 30 0 0;bound 0 2;");
        u.hold(1);
        mates(u, "0 is bound", 2, -1, 0);
    }

    private static void holesAtAFair() {
        CHECK.terms("Then each SOCK has a HOLE more (9 at most)");
        SockFair x = CHECK.of("plain 0 0 1 0 0;plain 0 0 1 7 0;plain 0 0 1 8 0;plain 0 0 1 9 0;");
        x.hold(1);
        int[] due = {1, 8, 9, 9};
        for (int one = 0; one < due.length; one++) {
            CHECK.same("HOLES of " + one, x.person(one, 4), due[one]);
        }
        x.hold(20);
        CHECK.same("HOLES of all", x.count(3), 36);
        CHECK.terms("YEAR 0 is the first");
        CHECK.same("the YEAR", CHECK.of(P).count(1), 0);
        CHECK.terms("The YEAR is one more then.");
        CHECK.same("the YEAR", CHECK.of(P).hold(1), 1);
        // Alike by what is there ahead of the new HOLES: at the second FAIR both have 1.
        SockFair y = CHECK.of(P + P + "alike worn=2;");
        y.hold(1);
        mates(y, "at the first", -1, -1);
        y.hold(1);
        mates(y, "at the second", 1, 0);
    }

    private static void wornThrough() {
        CHECK.terms("who has 9 of them now is worn through: that one and who is bound to that one are unbound");
        for (int holes = 6; holes <= 9; holes++) {
            SockFair x = CHECK.of("plain 0 0 1 " + holes + " 0;plain 0 0 1 0 0;bound 0 1;alike 0;");
            x.hold(1);
            boolean stays = holes <= 7;
            mates(x, "with " + holes + " ahead", stays ? 1 : -1, stays ? 0 : -1);
            SockFair y = CHECK.of("plain 0 0 1 0 0;plain 0 0 1 " + holes + " 0;bound 0 1;alike 0;");
            y.hold(1);
            mates(y, "by the other one", stays ? 1 : -1, stays ? 0 : -1);
        }
        // Bound at this FAIR and unbound at it; others stay.
        SockFair x = CHECK.of("plain 0 0 1 8 0;plain 0 0 1 8 0;plain 0 0 30 7 0;plain 0 0 30 7 0;");
        x.hold(1);
        mates(x, "the worn ones", -1, -1, 3, 2);
        // Nine FAIRS in one ACT, or in nine.
        SockFair y = CHECK.of(P + P);
        y.hold(8);
        mates(y, "behind 8", 1, 0);
        y.undo();
        y.hold(9);
        mates(y, "behind 9", -1, -1);
        SockFair z = CHECK.of(P + P);
        for (int i = 1; i <= 9; i++) {
            z.hold(1);
            mates(z, "behind " + i, i <= 8 ? 1 : -1, i <= 8 ? 0 : -1);
        }
    }

    // ---- promises 10 to 13 ----

    private static void dyes() {
        CHECK.promise(10, "DYED: the COLOUR as it was");
        SockFair x = CHECK.of(P + "plain 9 0 1 0 0;");
        int[] colours = {9, 0, 0, 5, 9};
        int was = 0;
        for (int i = 0; i < colours.length; i++) {
            CHECK.same("dye(0, " + colours[i] + ")", x.dye(0, colours[i]), was);
            CHECK.same("COLOUR", x.person(0, 0), colours[i]);
            CHECK.same("acts", x.count(5), i + 1);
            was = colours[i];
        }
        CHECK.terms("a SOCK is DYED (another COLOUR)");
        CHECK.same("the other one's stays", x.person(1, 0), 9);
        CHECK.same("dye the last one", x.dye(1, 0), 9);
        CHECK.same("not refused", x.count(9), 0);
        CHECK.promise(10, "NONE (STATUS 1): not 0 to 9");
        for (int colour : new int[] {-1, 10, -2, 11}) {
            refused("dye(0, " + colour + ")", y -> y.dye(0, colour));
        }
        for (int colour : FAR_OFF) {
            refused("dye(3, " + colour + ")", y -> y.dye(3, colour));
            CHECK.none("nobody first", () -> x.dye(2, colour));
            Twins.stays(CHECK, "dye(4, " + colour + ")", y -> y.dye(4, colour), Twins.NO_STATUS);
        }
    }

    private static void darns() {
        CHECK.promise(11, "DARNED: HOLES that are left");
        CHECK.terms("one is DARNED (HOLES less, 1 to 9, not below 0)");
        for (int holes = 0; holes <= 9; holes++) {
            for (int less = 1; less <= 9; less++) {
                SockFair x = CHECK.of("plain 0 0 1 " + holes + " 0;");
                CHECK.same("darn(0, " + less + ") of " + holes, x.darn(0, less), Math.max(0, holes - less));
                CHECK.same("HOLES", x.person(0, 4), Math.max(0, holes - less));
                CHECK.same("acts", x.count(5), 1);
                CHECK.same("undo", x.undo(), 0);
                CHECK.same("HOLES again", x.person(0, 4), holes);
            }
        }
        // Who is worn through and darned is bound no more for that, and isn't unbound.
        SockFair x = CHECK.of("plain 0 0 1 9 0;plain 0 0 1 0 0;bound 0 1;");
        x.darn(0, 2);
        mates(x, "darned", 1, 0);
        x.hold(1);
        mates(x, "8 holes", 1, 0);
        CHECK.promise(11, "NONE (STATUS 1): not 1 to 9");
        for (int holes : new int[] {0, -1, 10, 11}) {
            refused("darn(3, " + holes + ")", y -> y.darn(3, holes));
        }
        for (int holes : FAR_OFF) {
            refused("darn(0, " + holes + ")", y -> y.darn(0, holes));
            CHECK.none("nobody first", () -> x.darn(2, holes));
            Twins.stays(CHECK, "darn(-1, " + holes + ")", y -> y.darn(-1, holes), Twins.NO_STATUS);
        }
    }

    private static void unravels() {
        CHECK.promise(12, "UNRAVELLED: to whom one was bound");
        for (int who = 0; who <= 1; who++) {
            SockFair x = CHECK.of(P.repeat(10) + "bound 0 9;bound 4 5;");
            CHECK.same("unravel", x.unravel(9 * who), 9 - 9 * who);
            mates(x, "unravelled", -1, -1, -1, -1, 5, 4, -1, -1, -1, -1);
            CHECK.same("acts", x.count(5), 1);
            CHECK.same("nobody now", x.unravel(0), -1);
            CHECK.same("nor the other one", x.unravel(9), -1);
            CHECK.same("refused", x.count(9), 2);
            CHECK.same("acts", x.count(5), 1);
            CHECK.same("undo", x.undo(), 0);
            mates(x, "again", 9, -1, -1, -1, 5, 4, -1, -1, -1, 0);
        }
        CHECK.promise(12, "NONE (STATUS 1): to nobody");
        refused("unravel(1)", x -> x.unravel(1));
        refused("unravel(3)", x -> x.unravel(3));
        for (int who : new int[] {-1, 4, Integer.MIN_VALUE, Integer.MAX_VALUE}) {
            Twins.stays(CHECK, "unravel(" + who + ")", x -> x.unravel(who), Twins.NO_STATUS);
        }
    }

    private static void binds() {
        CHECK.promise(13, "BOUND by hand: true");
        CHECK.terms("two who aren't bound are BOUND by hand (whether they MAY or not)");
        SockFair x = CHECK.of("plain 0 0 1 9 0;heeled 9 0 30 9 0;" + P + P + "alike 0;");
        CHECK.same("bind(1, 0)", x.bind(1, 0), true);
        mates(x, "by hand", 1, 0, -1, -1);
        CHECK.same("bind(2, 3)", x.bind(2, 3), true);
        mates(x, "all", 1, 0, 3, 2);
        CHECK.same("acts", x.count(5), 2);
        CHECK.promise(13, "False (STATUS 1): both are one, one is bound");
        // 0 and 2 are bound to each other there.
        int[][] wrong = {{1, 1}, {0, 0}, {0, 1}, {1, 0}, {2, 3}, {3, 2}, {0, 2}, {2, 0}};
        for (int[] two : wrong) {
            String call = "bind(" + two[0] + ", " + two[1] + ")";
            CHECK.same(call, Twins.worked().bind(two[0], two[1]), false);
            Twins.stays(CHECK, call, y -> y.bind(two[0], two[1]), ACTS);
        }
        CHECK.same("those who are free", Twins.worked().bind(1, 3), true);
        for (int who : new int[] {-1, 4, Integer.MIN_VALUE, Integer.MAX_VALUE}) {
            Twins.stays(CHECK, "bind(0, " + who + ")", y -> y.bind(0, who), Twins.NO_STATUS);
            Twins.stays(CHECK, "bind(" + who + ", " + who + ")", y -> y.bind(who, who), Twins.NO_STATUS);
        }
    }

    // ---- promise 14 ----

    private static void undoNone() {
        CHECK.promise(14, "NONE: there is none");
        SockFair x = CHECK.of(P + P + "bound 0 1;");
        CHECK.same("undo", x.undo(), -1);
        CHECK.same("undo", x.undo(), -1);
        mates(x, "as told", 1, 0);
        CHECK.same("not refused", x.count(9), 0);
        CHECK.same("acts", x.count(5), 0);
        x.hold(0);
        x.dye(0, 10);
        CHECK.same("what is refused is no ACT", x.undo(), -1);
        x.dye(0, 9);
        CHECK.same("undo", x.undo(), 0);
        CHECK.same("undo", x.undo(), -1);
        CHECK.same("COLOUR", x.person(0, 0), 0);
        // What isn't an ACT isn't undone.
        x.see(0, 1, 1);
        x.image();
        x.forget();
        CHECK.same("undo", x.undo(), -1);
    }

    private static void fortyActs() {
        CHECK.promise(14, "The last ACT is UNDONE: how many are left");
        CHECK.terms("ACTS (at most 40 are kept, the latest ones)");
        for (int many : new int[] {39, 40, 41, 80, 81, 119}) {
            SockFair x = CHECK.of(P);
            for (int i = 1; i <= many; i++) {
                x.dye(0, i % 10);
            }
            int kept = Math.min(40, many);
            CHECK.same("acts of " + many, x.count(5), kept);
            for (int left = kept - 1; left >= 0; left--) {
                CHECK.same("undo of " + many, x.undo(), left);
            }
            CHECK.same("COLOUR ahead of the oldest that is kept", x.person(0, 0), (many - kept) % 10);
            CHECK.same("undo", x.undo(), -1);
            CHECK.same("the COLOUR stays", x.person(0, 0), (many - kept) % 10);
        }
    }

    private static void lastFirst() {
        CHECK.terms("They are UNDONE, the last one first");
        SockFair x = CHECK.of("plain 0 0 1 3 0;plain 0 0 1 8 0;plain 0 0 1 0 0;bound 1 2;");
        x.hold(1); // 1 is worn through; 0 gets nobody: both are bound ahead of it
        mates(x, "behind the fair", -1, -1, -1);
        x.bind(0, 1);
        x.unravel(1);
        x.darn(1, 9);
        x.dye(1, 4);
        x.hold(20);
        CHECK.same("acts", x.count(5), 6);
        CHECK.same("undo hold", x.undo(), 5);
        CHECK.same("the YEAR", x.count(1), 1);
        CHECK.same("HOLES", x.count(3), 5);
        CHECK.same("undo dye", x.undo(), 4);
        CHECK.same("COLOUR", x.person(1, 0), 0);
        CHECK.same("undo darn", x.undo(), 3);
        CHECK.same("HOLES", x.person(1, 4), 9);
        CHECK.same("undo unravel", x.undo(), 2);
        mates(x, "ahead of unravel", 1, 0, -1);
        CHECK.same("undo bind", x.undo(), 1);
        mates(x, "ahead of bind", -1, -1, -1);
        CHECK.same("undo hold", x.undo(), 0);
        mates(x, "ahead of all", -1, 2, 1);
        CHECK.same("HOLES", x.count(3), 11);
        CHECK.same("the YEAR", x.count(1), 0);
    }

    // ---- promises 42 and 43 ----

    private static void images() {
        CHECK.promise(43, "False: there is none");
        SockFair x = new SockFair();
        CHECK.same("of a new one", x.restore(), false);
        x.fair(Check.tape(x, P + P));
        x.hold(1);
        CHECK.same("still none", x.restore(), false);
        CHECK.same("nothing changes", x.count(1), 1);
        CHECK.same("acts", x.count(5), 1);
        for (int what = 8; what <= 10; what++) {
            CHECK.same("no STATUS " + what, x.count(what), 0);
        }
        CHECK.promise(43, "They are as the image again: true");
        x.image();
        x.hold(20);
        CHECK.same("restore", x.restore(), true);
        CHECK.same("the YEAR", x.count(1), 1);
        x.undo();
        CHECK.same("restore", x.restore(), true);
        CHECK.same("the YEAR", x.count(1), 1);
        CHECK.same("acts", x.count(5), 1);
        CHECK.same("any number of times", x.restore(), true);
        CHECK.same("a fault", x.fair(Check.tape(x, "sock")), 1);
        CHECK.same("all stays, the image too", x.restore(), true);
        CHECK.same("another fair", x.fair(Check.tape(x, P)), 0);
        CHECK.same("it is gone", x.restore(), false);
        SockFair y = new SockFair();
        y.image();
        y.hold(3);
        CHECK.same("an image of nobody", y.restore(), true);
        CHECK.same("the YEAR", y.count(1), 0);
        CHECK.same("acts", y.count(5), 0);
    }

    private static void imageInPlace() {
        CHECK.promise(42, "in place of another one");
        SockFair x = CHECK.of(P + P);
        x.image();
        x.dye(0, 7);
        x.see(0, 1, 1);
        x.image();
        x.dye(0, 8);
        x.forget();
        CHECK.same("restore", x.restore(), true);
        CHECK.same("the latest one", x.person(0, 0), 7);
        CHECK.same("seen", x.count(6), 1);
        x.undo();
        CHECK.same("COLOUR", x.person(0, 0), 0);
        CHECK.same("restore", x.restore(), true);
        CHECK.same("the latest one", x.person(0, 0), 7);
        // What comes behind it leaves it as it is.
        x.undo();
        x.dye(1, 3);
        x.dye(1, 4);
        x.see(1, 2, 0);
        x.hold(5);
        CHECK.same("restore", x.restore(), true);
        CHECK.same("acts", x.count(5), 1);
        CHECK.same("undo", x.undo(), 0);
        CHECK.same("COLOUR", x.person(0, 0), 0);
        CHECK.same("COLOUR", x.person(1, 0), 0);
    }

    private static void imageOfSights() {
        CHECK.promise(42, "what is SEEN are kept as an image");
        SockFair x = CHECK.of(P + P + P);
        x.see(0, 1, 1);
        x.see(2, 8, -1);
        x.image();
        CHECK.same("so", x.dyed(2), 1);
        x.forget();
        x.see(2, 3, 1);
        x.see(0, 4, -1);
        CHECK.same("not so", x.dyed(2), 0);
        CHECK.same("restore", x.restore(), true);
        CHECK.same("so again", x.dyed(2), 1);
        x.see(1, 9, -1);
        CHECK.same("three", x.count(6), 3);
        CHECK.same("and so still", x.dyed(2), 1);
    }

    /** Each answer is of what stands when it is asked, whatever was asked ahead. */
    private static void asked() {
        CHECK.promise(9, "FAIRS are held");
        Twins.forgetsAnswers(CHECK, "hold(1)", x -> x.hold(1));
        Twins.forgetsAnswers(CHECK, "hold(20)", x -> x.hold(20));
        CHECK.promise(10, "DYED");
        Twins.forgetsAnswers(CHECK, "dye(1, 9)", x -> x.dye(1, 9));
        Twins.forgetsAnswers(CHECK, "dye(0, 2)", x -> x.dye(0, 2));
        CHECK.promise(11, "DARNED");
        Twins.forgetsAnswers(CHECK, "darn(1, 9)", x -> x.darn(1, 9));
        CHECK.promise(12, "UNRAVELLED");
        Twins.forgetsAnswers(CHECK, "unravel(0)", x -> x.unravel(0));
        CHECK.promise(13, "BOUND by hand");
        Twins.forgetsAnswers(CHECK, "bind(1, 3)", x -> x.bind(1, 3));
        CHECK.promise(14, "The last ACT is UNDONE");
        for (int many = 1; many <= 5; many++) {
            int undone = many;
            Twins.forgetsAnswers(CHECK, many + " times undo()", x -> {
                for (int i = 0; i < undone; i++) {
                    x.undo();
                }
            });
        }
        CHECK.promise(43, "They are as the image again");
        Twins.forgetsAnswers(CHECK, "restore()", x -> x.restore());
        CHECK.promise(3, "all anew");
        Twins.forgetsAnswers(CHECK, "fair(17)", x -> x.fair(17));
        Twins.forgetsAnswers(CHECK, "fair(0)", x -> x.fair(0));
        Twins.forgetsAnswers(CHECK, "another text", x -> {
            x.fair(0);
            x.fair(Check.tape(x, Check.FIVE));
        });
        CHECK.promise(29, "SEEN");
        Twins.forgetsAnswers(CHECK, "see(0, 1, -1)", x -> x.see(0, 1, -1));
        Twins.forgetsAnswers(CHECK, "see(0, 2, 2)", x -> x.see(0, 2, 2));
        CHECK.promise(30, "forgotten");
        Twins.forgetsAnswers(CHECK, "forget()", SockFair::forget);
    }

    private static void imageOfAll() {
        CHECK.promise(42, "The YEAR, COLOURS, HOLES, who is bound to whom, ACTS and what is SEEN");
        SockFair x = CHECK.of(P.repeat(10));
        for (int i = 0; i < 45; i++) {
            x.dye(i % 10, 9 - i % 7);
        }
        x.hold(3);
        x.unravel(9);
        for (int i = 1; i <= 8; i++) {
            x.see(i, i, i - 1);
        }
        SockFair y = CHECK.of(P.repeat(10));
        for (int i = 0; i < 45; i++) {
            y.dye(i % 10, 9 - i % 7);
        }
        y.hold(3);
        y.unravel(9);
        x.image();
        x.fair(Check.tape(x, "sock"));
        x.hold(0);
        x.see(0, 0, 1);
        x.hold(20);
        x.forget();
        for (int i = 0; i < 41; i++) {
            x.dye(0, 0);
        }
        CHECK.same("restore", x.restore(), true);
        CHECK.same("STATUS is none of it", x.count(8) * 100 + x.count(9) * 10 + x.count(10), 111);
        CHECK.same("nor is the FAULT", x.fault(), 0);
        CHECK.same("seen", x.count(6), 8);
        CHECK.same("a ninth one", x.see(0, 1, 1), -1);
        for (int i = 0; i < 41; i++) {
            CHECK.same("undo", x.undo(), y.undo());
            CHECK.same("the YEAR", x.count(1), y.count(1));
            CHECK.same("bound", x.count(2), y.count(2));
            CHECK.same("HOLES", x.count(3), y.count(3));
            CHECK.same("COLOUR", x.person(i % 10, 0), y.person(i % 10, 0));
        }
    }
}
