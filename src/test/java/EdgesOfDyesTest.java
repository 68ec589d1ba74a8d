/** The boundary cases of promises 27 to 32 and 41: way, knit, see, forget, dyed, next, darner. */
public final class EdgesOfDyesTest {
    private static final Check CHECK = new Check();
    private static final String P = Check.P;
    private static final int[] FAR_OFF = {Integer.MIN_VALUE, Integer.MIN_VALUE + 1, -100, 100, Integer.MAX_VALUE - 1, Integer.MAX_VALUE};
    private static final int SEEN = 2;

    public static void main(String[] args) {
        noWay();
        costs();
        firstWay();
        wayAhead();
        whatsOfWay();
        knits();
        knitForNobodyElse();
        eightSeen();
        fairsSeen();
        oneAndAnother();
        forgotten();
        dyedNone();
        dyed();
        whatsOfDyed();
        nextFair();
        whatsOfNext();
        darner();
        thoughtsOnly();
        CHECK.namesPromises(27, 32);
        CHECK.namesPromises(41, 41);
        CHECK.end("EdgesOfDyesTest");
    }

    // ---- promise 27 ----

    private static void way(String when, SockFair x, int one, int other, int cost, int first) {
        CHECK.same(when + ": way(" + one + ", " + other + ", 0)", x.way(one, other, 0), cost);
        CHECK.same(when + ": way(" + one + ", " + other + ", 1)", x.way(one, other, 1), first);
    }

    private static void noWay() {
        CHECK.promise(27, "NONE: none, both are one, one is bound");
        way("none", CHECK.of(P + P + "alike 0;"), 0, 1, -1, -1);
        way("both are one", CHECK.of(P + P), 1, 1, -1, -1);
        way("alone", CHECK.of(P), 0, 0, -1, -1);
        SockFair x = CHECK.of(P + P + P + P + "bound 1 2;");
        way("the one is bound", x, 1, 0, -1, -1);
        way("the other one is bound", x, 0, 1, -1, -1);
        way("both are bound", x, 1, 2, -1, -1);
        way("nobody is bound of both", x, 0, 3, 0, 0);
        // 1 is nearer to 0 than any sock of 2 could be, as like ones go by the lesser one.
        way("like ones, the lesser first", CHECK.of(P + P + P), 2, 0, -1, -1);
    }

    private static void costs() {
        CHECK.promise(27, "A WAY: what it costs (what 0), the first (1)");
        CHECK.terms("the least of what it costs: 3 for another COLOUR, 1 for each HOLE");
        way("nothing", CHECK.of("plain 9 0 1 9 0;plain 9 0 1 9 0;"), 0, 1, 0, 90);
        way("a COLOUR", CHECK.of("plain 9 0 1 9 0;" + P + "alike not colours;"), 0, 1, 3, 0);
        way("a HOLE", CHECK.of("plain 9 0 1 9 0;" + P + "alike worn<9;"), 0, 1, 1, 91);
        way("all HOLES", CHECK.of("plain 9 0 1 9 0;" + P + "alike worn=0;"), 0, 1, 9, 99);
        way("a COLOUR and all HOLES", CHECK.of("plain 9 0 1 9 0;" + P + "alike worn=0 and colours=0;"), 0, 1, 12, 9);
        CHECK.terms("a COLOUR, and so many HOLES darned (0 to as many as there are)");
        way("not more HOLES than there are", CHECK.of("plain 9 0 1 9 0;plain 0 0 1 1 0;alike worn=0;"), 0, 1, -1, -1);
        way("one has none", CHECK.of(P + "plain 0 0 1 9 0;alike worn<9;"), 0, 1, -1, -1);
        way("one has one", CHECK.of("plain 0 0 1 1 0;" + P + "alike worn=0;"), 0, 1, 1, 1);
        way("a COLOUR is less than 4 HOLES", CHECK.of("plain 5 0 1 9 0;" + P + "alike worn<6 or colours=0;"), 0, 1, 3, 0);
        way("2 HOLES are less than a COLOUR", CHECK.of("plain 5 0 1 9 0;" + P + "alike worn<8 or colours=0;"), 0, 1, 2, 52);
    }

    private static void firstWay() {
        CHECK.terms("the first such one (by COLOUR, then HOLES: 10 by the COLOUR and how many are darned)");
        way("of like COLOURS the first", CHECK.of(P + "plain 5 0 1 0 0;alike 3-colours;"), 0, 1, 3, 30);
        way("the last COLOUR", CHECK.of(P + P + "alike colours=9;"), 0, 1, 3, 90);
        way("3 HOLES of COLOUR 5 or COLOUR 2", CHECK.of("plain 5 0 1 9 0;plain 0 0 1 0 0;alike worn<7 or colours=2;"), 0, 1, 3, 20);
        way("3 HOLES of COLOUR 5 or COLOUR 7", CHECK.of("plain 5 0 1 9 0;plain 0 0 1 0 0;alike worn<7 or colours=7;"), 0, 1, 3, 53);
        way("COLOUR 3 with one, COLOUR 2 with one", CHECK.of("plain 5 0 1 9 0;plain 0 0 1 0 0;alike worn=8 and (colours=3 or colours=2);"),
            0, 1, 4, 21);
        // Another COLOUR of one's own and 4 HOLES cost the same: 0 comes first.
        way("COLOUR 0 with one or COLOUR 5 with four", CHECK.of("plain 5 0 1 9 0;plain 0 0 1 0 0;alike worn=8 and colours=0 or worn=5 and colours=5;"),
            0, 1, 4, 1);
        way("COLOUR 9 with one or COLOUR 5 with four", CHECK.of("plain 5 0 1 9 0;plain 0 0 1 0 0;alike worn=8 and colours=9 or worn=5 and colours=5;"),
            0, 1, 4, 54);
    }

    private static void wayAhead() {
        CHECK.terms("one is bound to a told one at the next FAIR (ahead of its new HOLES)");
        way("worn through at it", CHECK.of("plain 0 0 1 8 0;plain 0 0 1 8 0;"), 0, 1, 0, 0);
        way("worn through ahead of it", CHECK.of("plain 0 0 1 9 0;plain 0 0 1 9 0;"), 1, 0, 0, 0);
        way("alike by the HOLES of now", CHECK.of(P + P + "alike worn=0;"), 0, 1, 0, 0);
        way("not by those behind it", CHECK.of(P + P + "alike worn=2;"), 0, 1, -1, -1);
        // 0 must be nearer to 1 than 2 is: 2 is 1 off.
        SockFair x = CHECK.of("plain 3 0 1 0 0;plain 5 0 1 0 0;plain 6 0 1 0 0;alike 9-colours;");
        way("as near as another one: the lesser first", x, 0, 1, 3, 40);
        way("nearer than another one: as near isn't enough", x, 2, 0, 3, 20);
        // The others are bound as at a FAIR: 12 first, 03 are left.
        SockFair y = CHECK.of("plain 0 0 1 0 0;plain 4 0 1 0 0;plain 4 0 1 0 0;plain 9 0 1 0 0;alike 10-colours;");
        way("those who are left", y, 0, 3, 0, 0);
    }

    private static void whatsOfWay() {
        CHECK.promise(27, "NoSuchElementException: also another what");
        SockFair x = CHECK.of(P + P + P + "bound 1 2;");
        for (int what : new int[] {-1, 2, Integer.MIN_VALUE, Integer.MAX_VALUE}) {
            CHECK.none("way(0, 1, " + what + ")", () -> x.way(0, 1, what));
            CHECK.none("way(0, 0, " + what + ")", () -> x.way(0, 0, what));
            CHECK.none("way(1, 2, " + what + ")", () -> x.way(1, 2, what));
            CHECK.none("way(3, 0, " + what + ")", () -> x.way(3, 0, what));
            Twins.stays(CHECK, "way(0, 1, " + what + ")", y -> y.way(0, 1, what), Twins.NO_STATUS);
        }
        CHECK.none("way(3, 3, 0)", () -> x.way(3, 3, 0));
    }

    // ---- promise 28 ----

    private static void knits() {
        CHECK.promise(28, "KNIT; NONE: none");
        CHECK.terms("the least SIZE (then COLOUR, PATTERN, WOOL): 10000 by SIZE, 100 by COLOUR, 10 by PATTERN and WOOL; none");
        CHECK.same("the least of all", CHECK.of(P + "alike 1;").knit(0), 10000);
        CHECK.same("the greatest of all",
            CHECK.of(P + "alike sizes=29 and colours=9 and pattern=0 and plain=1 and wool=0;").knit(0), 300911);
        CHECK.same("the last PATTERN and WOOL", CHECK.of("heeled 9 3 30 0 0;alike not sizes and not colours and pattern and wool;").knit(0), 300933);
        CHECK.same("the SIZE 30", CHECK.of(P + "alike sizes=29;").knit(0), 300000);
        CHECK.same("no SIZE 31", CHECK.of(P + "alike sizes=30;").knit(0), -1);
        CHECK.same("no SIZE 0", CHECK.of("plain 0 0 30 0 0;alike sizes=30;").knit(0), -1);
        CHECK.same("the SIZE 1", CHECK.of("plain 0 0 30 0 0;alike sizes=29;").knit(0), 10000);
        CHECK.same("the COLOUR 9", CHECK.of(P + "alike colours=9;").knit(0), 10900);
        CHECK.same("no COLOUR 10", CHECK.of(P + "alike colours=10;").knit(0), -1);
        CHECK.same("the WOOL 3", CHECK.of("plain 0 3 1 0 0;alike wool;").knit(0), 10003);
        CHECK.same("the PATTERN 3", CHECK.of("heeled 0 0 1 0 0;alike pattern;").knit(0), 10030);
        CHECK.same("by plain alone", CHECK.of(P + "alike plain=1;").knit(0), 10010);
        CHECK.same("the least SIZE, not the nearest", CHECK.of("plain 0 0 9 0 0;alike 3-sizes;").knit(0), 70000);
        CHECK.same("the SIZE ahead of the COLOUR", CHECK.of(P + "alike sizes=1 and not colours or not sizes and colours=9;").knit(0), 10900);
        CHECK.same("the COLOUR ahead of the PATTERN", CHECK.of(P + "alike colours=1 and pattern or not colours and not pattern;").knit(0), 10010);
        CHECK.same("the PATTERN ahead of the WOOL", CHECK.of("heeled 0 0 1 0 0;alike plain and not wool or not plain and wool;").knit(0), 10001);
        CHECK.same("without a rule", CHECK.of(P).knit(0), 10000);
        CHECK.same("without a rule, not by 0", CHECK.of("plain 9 0 30 0 0;").knit(0), 160900);
        CHECK.terms("a SOCK without HOLES");
        CHECK.same("as many HOLES as that one", CHECK.of("plain 0 0 1 5 0;alike worn=5 and holes=5;").knit(0), 10000);
        CHECK.same("none itself", CHECK.of("plain 0 0 1 5 0;alike not holes;").knit(0), -1);
    }

    private static void knitForNobodyElse() {
        CHECK.terms("if it were an 11th one's (behind all), by more than 0, but to nobody else");
        CHECK.same("by 0", CHECK.of(P + "alike 0;").knit(0), -1);
        CHECK.same("by 1", CHECK.of(P + "alike 1;").knit(0), 10000);
        CHECK.same("by -1", CHECK.of(P + "alike 0-1;").knit(0), -1);
        CHECK.same("another one is as alike", CHECK.of(P + P).knit(1), -1);
        // By the other one 0 is not more than 0: sizes 1 and 4, 3 - sizes.
        CHECK.same("to the other one by 0", CHECK.of("plain 0 0 1 0 0;plain 0 0 4 0 0;alike 3-sizes;").knit(0), 10000);
        CHECK.same("not by 1", CHECK.of("plain 0 0 1 0 0;plain 0 0 3 0 0;alike 3-sizes;").knit(1), 40000);
        StringBuilder ten = new StringBuilder();
        for (int i = 0; i < 10; i++) {
            ten.append("plain ").append(i).append(" 0 ").append(1 + 3 * i).append(" 0 0;");
        }
        SockFair x = CHECK.of(ten + "alike not sizes and not colours;");
        for (int one = 0; one < 10; one++) {
            CHECK.same("of ten, for " + one, x.knit(one), 10000 * (1 + 3 * one) + 100 * one);
        }
        // Whoever is bound.
        x.bind(0, 9);
        CHECK.same("who is bound", x.knit(9), 280900);
        CHECK.none("knit(10)", () -> x.knit(10));
        CHECK.none("knit(-1)", () -> x.knit(-1));
    }

    // ---- promises 29 and 30 ----

    private static void refused(String call, java.util.function.ToIntFunction<SockFair> what) {
        CHECK.same(call, what.applyAsInt(Twins.worked()), -1);
        Twins.stays(CHECK, call, what::applyAsInt, SEEN);
    }

    private static void eightSeen() {
        CHECK.promise(29, "SEEN (other NONE: to nobody): how much is");
        CHECK.terms("SEEN (at most 8)");
        SockFair x = CHECK.of(P + P);
        for (int i = 1; i <= 8; i++) {
            CHECK.same("see", x.see(i % 2, i, i % 2 == 0 ? 1 : -1), i);
            CHECK.same("seen", x.count(6), i);
        }
        CHECK.promise(29, "NONE (STATUS 2): there are 8, not 1 to 20, both are one");
        for (int i = 1; i <= 3; i++) {
            CHECK.same("a ninth one", x.see(0, 1, 1), -1);
            CHECK.same("seen", x.count(6), 8);
            CHECK.same("refused", x.count(10), i);
        }
        CHECK.same("a ninth one, and wrong", x.see(0, 0, 0), -1);
        CHECK.same("refused once", x.count(10), 4);
        CHECK.none("nobody first", () -> x.see(2, 1, 0));
        CHECK.none("nobody first", () -> x.see(0, 1, 2));
        CHECK.same("refused", x.count(10), 4);
        // The ninth one, which would not be so, has come to nothing.
        SockFair y = CHECK.of(P + P);
        for (int i = 1; i <= 8; i++) {
            y.see(0, i, 1);
        }
        CHECK.same("all so", y.dyed(2), 1);
        CHECK.same("a ninth one that isn't so", y.see(0, 1, -1), -1);
        CHECK.same("all so still", y.dyed(2), 1);
    }

    private static void fairsSeen() {
        CHECK.promise(29, "not 1 to 20");
        CHECK.terms("behind the i-th FAIR from now (1 to 20)");
        SockFair x = CHECK.of(P + P);
        CHECK.same("see(0, 1, 1)", x.see(0, 1, 1), 1);
        CHECK.same("see(0, 20, -1)", x.see(0, 20, -1), 2);
        CHECK.same("so", x.dyed(2), 1);
        CHECK.same("not refused", x.count(10), 0);
        for (int fairs : new int[] {0, -1, 21, 22}) {
            refused("see(0, " + fairs + ", 1)", y -> y.see(0, fairs, 1));
            refused("see(0, " + fairs + ", -1)", y -> y.see(0, fairs, -1));
        }
        for (int fairs : FAR_OFF) {
            refused("see(2, " + fairs + ", 3)", y -> y.see(2, fairs, 3));
            CHECK.none("nobody ahead", () -> x.see(2, fairs, 0));
            CHECK.none("nobody ahead", () -> x.see(0, fairs, 2));
            CHECK.none("nobody ahead", () -> x.see(-1, fairs, 0));
            Twins.stays(CHECK, "see(4, " + fairs + ", 0)", y -> y.see(4, fairs, 0), Twins.NO_STATUS);
        }
        // Each of 1 to 20: bound behind 1 to 8, to nobody behind the others.
        for (int fairs = 1; fairs <= 20; fairs++) {
            SockFair y = CHECK.of(P + P);
            y.see(0, fairs, 1);
            CHECK.same("bound behind " + fairs, y.dyed(2), fairs <= 8 ? 1 : 0);
            y.forget();
            y.see(1, fairs, -1);
            CHECK.same("to nobody behind " + fairs, y.dyed(2), fairs <= 8 ? 0 : 1);
        }
    }

    private static void oneAndAnother() {
        CHECK.promise(29, "both are one. NoSuchElementException (ahead): no such PEOPLE");
        refused("see(0, 1, 0)", x -> x.see(0, 1, 0));
        refused("see(3, 20, 3)", x -> x.see(3, 20, 3));
        refused("see(3, 21, 3)", x -> x.see(3, 21, 3));
        for (int who : new int[] {-2, 4, Integer.MIN_VALUE, Integer.MAX_VALUE}) {
            CHECK.none("see(" + who + ", 1, " + who + ")", () -> Twins.worked().see(who, 1, who));
            CHECK.none("see(0, 1, " + who + ")", () -> Twins.worked().see(0, 1, who));
            CHECK.none("see(0, 0, " + who + ")", () -> Twins.worked().see(0, 0, who));
            Twins.stays(CHECK, "see(0, 1, " + who + ")", x -> x.see(0, 1, who), Twins.NO_STATUS);
            Twins.stays(CHECK, "see(" + who + ", 0, 0)", x -> x.see(who, 0, 0), Twins.NO_STATUS);
        }
        CHECK.none("see(-1, 1, 0)", () -> Twins.worked().see(-1, 1, 0));
        CHECK.none("see(-1, 1, -1)", () -> Twins.worked().see(-1, 1, -1));
        CHECK.same("see(0, 1, -1)", Twins.worked().see(0, 1, -1), 3);
    }

    private static void forgotten() {
        CHECK.promise(30, "All that is SEEN is forgotten");
        SockFair x = CHECK.of(P + P);
        x.forget();
        CHECK.same("of none", x.count(6), 0);
        for (int i = 1; i <= 8; i++) {
            x.see(0, i, -1);
        }
        CHECK.same("not so", x.dyed(2), 0);
        CHECK.same("by none", x.dyed(0), 0);
        CHECK.same("no fair tells", x.next(0), -1);
        x.forget();
        CHECK.same("of eight", x.count(6), 0);
        CHECK.same("by all", x.dyed(0), 18);
        CHECK.same("a fair tells", x.next(0), 1);
        CHECK.same("so without any", x.dyed(2), 1);
        CHECK.same("eight again", x.see(0, 1, 1), 1);
        CHECK.same("so", x.dyed(2), 1);
        CHECK.same("no ACT", x.count(5), 0);
        CHECK.same("not undone", x.undo(), -1);
        CHECK.same("seen", x.count(6), 1);
        for (int what = 8; what <= 10; what++) {
            CHECK.same("no STATUS " + what, x.count(what), 0);
        }
        Twins.stays(CHECK, "forget and restore", y -> {
            y.image();
            y.forget();
            y.restore();
            // The image ahead of that one is gone: it is made again as it was.
            remakeImage(y);
        }, Twins.NO_STATUS);
    }

    /** From an object as it stands, the image of the twins again, and all that came behind it. */
    private static void remakeImage(SockFair x) {
        x.undo();
        x.undo();
        x.forget();
        x.see(0, 1, 2);
        x.image();
        x.see(1, 3, -1);
        x.unravel(1);
        x.darn(3, 2);
    }

    // ---- promise 31 ----

    private static void found(String when, SockFair x, int many, int first, int without) {
        CHECK.same(when + ": dyed(0)", x.dyed(0), many);
        CHECK.same(when + ": dyed(1)", x.dyed(1), first);
        CHECK.same(when + ": dyed(2)", x.dyed(2), without);
    }

    private static void dyedNone() {
        CHECK.promise(31, "DYED: how many (what 0), the first (1; NONE: none), whether without (2)");
        found("nobody", new SockFair(), 0, -1, 1);
        // Nothing SEEN: each of nine other COLOURS.
        for (int many = 1; many <= 10; many++) {
            found("nothing seen of " + many, CHECK.of(P.repeat(many)), 9 * many, 1, 1);
        }
        found("nothing seen, own COLOUR 1", CHECK.of("plain 1 0 1 0 0;"), 9, 0, 1);
        SockFair x = CHECK.of(P + P);
        x.see(0, 9, 1);
        found("never", x, 0, -1, 0);
        x.forget();
        x.see(0, 9, -1);
        found("always", x, 18, 1, 1);
        x.forget();
        x.see(0, 3, 1);
        x.see(0, 3, -1);
        found("both can't be", x, 0, -1, 0);
    }

    private static void dyed() {
        CHECK.terms("PEOPLE and COLOURS (another one than it has) by one of which, it being that now, all SEEN would be so");
        // Bound as they are: 0 dyed within 4 of 0, or 1.
        SockFair x = CHECK.of(P + P + "alike 5-colours;");
        x.see(0, 1, 1);
        found("so without", x, 8, 1, 1);
        x.forget();
        x.see(0, 1, -1);
        found("not so without", x, 10, 5, 0);
        // Only the last one by its last COLOUR: 9 off from 0.
        SockFair y = CHECK.of("plain 9 0 1 0 0;" + P + "alike colours=8;");
        y.see(1, 1, 0);
        // 0 dyed 8; 1 dyed 1.
        found("one each", y, 2, 8, 0);
        SockFair z = CHECK.of("plain 8 0 1 0 0;plain 8 0 1 0 0;plain 0 0 1 0 0;alike colours=9;");
        z.see(2, 1, 1);
        found("the first isn't 0's", z, 1, 19, 0);
        // The first by who, not by COLOUR: 0 dyed 9 comes ahead of 1 dyed 0.
        SockFair w = CHECK.of("plain 0 0 1 0 0;plain 9 0 1 0 0;alike not colours;");
        w.see(0, 1, 1);
        found("0 by 9, 1 by 0", w, 2, 9, 0);
        // Two things SEEN, of which each alone would have others.
        SockFair v = CHECK.of("plain 0 0 1 0 0;plain 4 0 1 0 0;plain 8 0 1 0 0;alike 3-colours;");
        v.see(0, 1, 1);
        // 0 dyed 2 to 6 (of like ones 12 isn't near), 1 dyed 0 to 2.
        found("one of two", v, 8, 2, 0);
        v.see(2, 1, -1);
        found("both", v, 8, 2, 0);
        v.see(2, 8, 1);
        found("all three", v, 0, -1, 0);
        CHECK.terms("whether it is so without (1)");
        SockFair u = CHECK.of(P + P + "alike not colours;");
        u.see(0, 1, 1);
        found("so without, by none", u, 0, -1, 1);
    }

    private static void whatsOfDyed() {
        CHECK.promise(31, "NoSuchElementException: another what");
        for (int what : new int[] {-1, 3, Integer.MIN_VALUE, Integer.MAX_VALUE}) {
            CHECK.none("dyed(" + what + ")", () -> CHECK.of(P + P).dyed(what));
            CHECK.none("dyed(" + what + ") of nobody", () -> new SockFair().dyed(what));
            Twins.stays(CHECK, "dyed(" + what + ")", x -> x.dyed(what), Twins.NO_STATUS);
        }
    }

    // ---- promise 32 ----

    private static void telling(String when, SockFair x, int fair, int many) {
        CHECK.same(when + ": next(0)", x.next(0), fair);
        CHECK.same(when + ": next(1)", x.next(1), many);
    }

    private static void nextFair() {
        CHECK.promise(32, "THE NEXT FAIR (what 0; NONE), how many (1; 0: none)");
        CHECK.terms("who is bound to whom would be most unlike: how many; none without any");
        telling("nobody", new SockFair(), -1, 0);
        SockFair never = CHECK.of(P + P);
        never.see(0, 9, 1);
        telling("none", never, -1, 0);
        telling("one alone", CHECK.of(P), 1, 1);
        telling("all the same", CHECK.of(P + P), 1, 1);
        telling("never bound", CHECK.of(P + P + "alike 0;"), 1, 1);
        telling("bound or not", CHECK.of(P + P + "alike 5-colours;"), 1, 2);
        CHECK.terms("that (1 to 20; of like ones the first)");
        // By COLOURS at one FAIR only, when both together have so many HOLES; then it stays so.
        for (int fair = 1; fair <= 9; fair++) {
            SockFair x = CHECK.of(P + P + "alike (worn=" + 2 * (fair - 1) + ")*(5-colours);");
            telling("at fair " + fair, x, fair <= 8 ? fair : 1, fair <= 8 ? 2 : 1);
        }
        // Ten of all COLOURS: whoever is dyed is bound to whose COLOUR that is, in 45 couples.
        StringBuilder ten = new StringBuilder("alike not colours;");
        for (int i = 0; i < 10; i++) {
            ten.append("plain ").append(i).append(" 0 1 0 0;");
        }
        telling("45 couples", CHECK.of(ten.toString()), 1, 45);
        // Four of ten are free, 1, 4, 7 and 9: any two of them or none are bound beside those who are.
        telling("six couples and none", CHECK.of(ten + "bound 0 8;bound 2 6;bound 3 5;"), 1, 7);
        // Nine: each may also get the COLOUR that nobody has, and then nobody is bound, whoever it is.
        StringBuilder nine = new StringBuilder("alike not colours;");
        for (int i = 0; i < 9; i++) {
            nine.append("plain ").append(i).append(" 0 1 0 0;");
        }
        telling("36 couples and none", CHECK.of(nine.toString()), 1, 37);
        // At the first FAIR 01 alone MAY be, at the second one any of three.
        SockFair later = CHECK.of("plain 0 0 1 0 0;plain 1 0 2 0 0;plain 2 0 9 0 0;alike not colours and (sizes=1 or worn=2);");
        telling("01 and none, then all three and none", later, 2, 4);
        CHECK.same("they stay thoughts", later.best() * 100 + later.most(-1) * 10 + later.colour(1), 1);
        SockFair far = CHECK.of(P + "plain 9 0 1 0 0;alike 3-colours;");
        telling("none, then 01", far, 1, 2);
        CHECK.same("they stay thoughts", far.best() * 100 + far.most(-1) * 10 + far.colour(1), 1);
        // Without dyeing it would be another one: that doesn't count.
        SockFair y = CHECK.of(P + P + "alike not colours;");
        y.see(0, 20, -1);
        telling("by these", y, 1, 1);
        // One SEEN leaves fewer.
        SockFair z = CHECK.of("plain 0 0 1 0 0;plain 4 0 1 0 0;plain 8 0 1 0 0;alike 3-colours;");
        // 01, 02, 12 or none.
        telling("three and none", z, 1, 4);
        z.see(0, 1, -1);
        telling("12 or none", z, 1, 2);
        z.see(1, 1, 2);
        telling("12", z, 1, 1);
    }

    private static void whatsOfNext() {
        CHECK.promise(32, "NoSuchElementException: another what");
        for (int what : new int[] {-1, 2, Integer.MIN_VALUE, Integer.MAX_VALUE}) {
            CHECK.none("next(" + what + ")", () -> CHECK.of(P + P).next(what));
            CHECK.none("next(" + what + ") of nobody", () -> new SockFair().next(what));
            Twins.stays(CHECK, "next(" + what + ")", x -> x.next(what), Twins.NO_STATUS);
        }
    }

    // ---- promise 41 ----

    private static void darner() {
        CHECK.promise(41, "A DARNER; NONE: none");
        CHECK.terms("makes most COUPLES behind 5 FAIRS, if more than without (of like ones the least); none");
        CHECK.same("nobody", new SockFair().darner(), -1);
        CHECK.same("alone", CHECK.of("plain 0 0 1 9 0;").darner(), -1);
        CHECK.same("no HOLES", CHECK.of(P + P).darner(), -1);
        // Worn through behind 5 FAIRS by 4 HOLES.
        for (int holes = 0; holes <= 9; holes++) {
            CHECK.same("0 has " + holes, CHECK.of("plain 0 0 1 " + holes + " 0;" + P + "alike 1;").darner(), holes >= 4 ? 0 : -1);
            CHECK.same("1 has " + holes, CHECK.of(P + "plain 0 0 1 " + holes + " 0;alike 1;").darner(), holes >= 4 ? 1 : -1);
            CHECK.same("both have " + holes, CHECK.of(("plain 0 0 1 " + holes + " 0;").repeat(2) + "alike 1;").darner(), -1);
        }
        // All its HOLES: alike by none at all, at the first FAIR.
        for (int holes = 1; holes <= 9; holes++) {
            CHECK.same("all " + holes, CHECK.of("plain 0 0 1 " + holes + " 0;" + P + "alike not worn;").darner(), 0);
        }
        // Behind 5 FAIRS, not 4 or 6: alike at the fifth one alone, if 0 has none.
        CHECK.same("at the fifth", CHECK.of("plain 0 0 1 1 0;" + P + "alike worn=8;").darner(), 0);
        CHECK.same("at the sixth", CHECK.of("plain 0 0 1 1 0;" + P + "alike worn=10;").darner(), -1);
        CHECK.same("either of two", CHECK.of("plain 0 0 1 9 0;plain 0 0 1 9 0;" + P).darner(), 0);
        CHECK.same("the last of ten", CHECK.of(P.repeat(9) + "plain 0 0 1 9 0;alike 1;").darner(), 9);
        CHECK.same("as many as without", CHECK.of(P + P + "plain 0 0 1 9 0;alike 1;").darner(), -1);
        CHECK.same("who is bound", CHECK.of("plain 0 0 1 5 0;" + P + "bound 0 1;alike 0;").darner(), 0);
        // 0, darned, is alike to 1 no more: one couple fewer; 2, darned, keeps 3.
        CHECK.same("most, not the least", CHECK.of("plain 0 0 1 3 0;" + P + "heeled 0 0 1 4 0;heeled 0 0 1 0 0;alike pattern*(plain=0 or holes=3);").darner(), 2);
    }

    private static void thoughtsOnly() {
        CHECK.promise(27, "A WAY");
        Twins.stays(CHECK, "what only asks", x -> {
            for (int one = 0; one < 4; one++) {
                x.way(one, 3 - one, 0);
                x.way(1, 3, 1);
                x.knit(one);
            }
            x.dyed(0);
            x.dyed(1);
            x.dyed(2);
            x.next(0);
            x.next(1);
            x.darner();
        }, Twins.NO_STATUS);
    }
}
