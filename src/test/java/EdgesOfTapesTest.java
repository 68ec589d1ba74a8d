/** The boundary cases of promises 1 to 8: a new object, feed, fair, fault, count, person, alike, liking. */
public final class EdgesOfTapesTest {
    private static final Check CHECK = new Check();
    private static final String P = Check.P;
    private static final int[] FAR_OFF = {Integer.MIN_VALUE, Integer.MAX_VALUE};

    public static void main(String[] args) {
        twins();
        nobody();
        nobodyThere();
        bytesInOrder();
        fullTape();
        firstBytes();
        emptyThen();
        allStays();
        allAnew();
        notSoMany();
        places();
        whatsOfCount();
        leastCounts();
        greatestCounts();
        status();
        whatsOfPerson();
        bitsOfTen();
        may();
        rather();
        alikes();
        likings();
        lastCall();
        CHECK.namesPromises(1, 8);
        CHECK.end("EdgesOfTapesTest");
    }

    /** The objects that other tests compare hold something of everything. */
    private static void twins() {
        SockFair x = Twins.worked();
        int[] due = {4, 1, 5, 9, 3, 5, 2, 20, 2, 1, 1};
        for (int what = 0; what < due.length; what++) {
            CHECK.same("of twins, count(" + what + ")", x.count(what), due[what]);
        }
        CHECK.same("of twins, fault()", x.fault(), 7);
        Twins.stays(CHECK, "nothing", y -> y.count(0), Twins.NO_STATUS);
    }

    // ---- promise 1 ----

    private static void nobody() {
        CHECK.promise(1, "Nobody.");
        SockFair x = new SockFair();
        for (int what = 0; what <= 10; what++) {
            CHECK.same("count(" + what + ")", x.count(what), 0);
        }
        CHECK.same("fault()", x.fault(), -1);
        for (int fairs = 0; fairs <= 30; fairs += 15) {
            CHECK.same("couples(" + fairs + ")", x.couples(fairs), 0);
            CHECK.same("single(" + fairs + ")", x.single(fairs), 0);
        }
        CHECK.same("closest()", x.closest(), -1);
        CHECK.same("lonely()", x.lonely(), 0);
        CHECK.same("faithful()", x.faithful(), 0);
        CHECK.same("most(-1)", x.most(-1), 0);
        CHECK.same("best()", x.best(), 0);
        CHECK.same("rests(-1)", x.rests(-1), 1);
        CHECK.same("dyed(0)", x.dyed(0), 0);
        CHECK.same("dyed(1)", x.dyed(1), -1);
        CHECK.same("dyed(2)", x.dyed(2), 1);
        CHECK.same("next(0)", x.next(0), -1);
        CHECK.same("next(1)", x.next(1), 0);
        CHECK.same("ring()", x.ring(), -1);
        CHECK.same("circles()", x.circles(), 0);
        CHECK.same("colour(0)", x.colour(0), 0);
        CHECK.same("colour(1)", x.colour(1), 0);
        CHECK.same("darner()", x.darner(), -1);
        for (int what = 0; what <= 2; what++) {
            CHECK.same("generations(1, 60, " + what + ")", x.generations(1, 60, what), 0);
        }
        CHECK.same("undo()", x.undo(), -1);
        CHECK.same("restore()", x.restore(), false);
        x.forget();
        CHECK.same("hold(20)", x.hold(20), 20);
        CHECK.same("another new one", new SockFair().count(1), 0);
    }

    private static void nobodyThere() {
        CHECK.promise(1, "Nobody.");
        SockFair x = new SockFair();
        everyPerson(x, 0);
        for (int what = 8; what <= 10; what++) {
            CHECK.same("count(" + what + ")", x.count(what), 0);
        }
        CHECK.promise(6, "no such PERSON (as everywhere)");
        SockFair ten = CHECK.of(P.repeat(10));
        for (int who : new int[] {-1, 10, 11, 32, Integer.MIN_VALUE, Integer.MAX_VALUE}) {
            everyPerson(ten, who);
        }
        CHECK.none("most(-2)", () -> ten.most(-2));
        CHECK.none("rests(-2)", () -> ten.rests(-2));
        CHECK.none("see(0, 1, -2)", () -> ten.see(0, 1, -2));
        CHECK.same("no STATUS 1", ten.count(9), 0);
        CHECK.same("no STATUS 2", ten.count(10), 0);
        CHECK.same("no ACT", ten.count(5), 0);
    }

    /** Every call that takes one of PEOPLE, at each place for one, with one who isn't there. */
    private static void everyPerson(SockFair x, int who) {
        String name = "of " + who + ": ";
        CHECK.none(name + "person", () -> x.person(who, 0));
        CHECK.none(name + "alike", () -> x.alike(who, 0));
        CHECK.none(name + "alike", () -> x.alike(0, who));
        CHECK.none(name + "liking", () -> x.liking(who, 0));
        CHECK.none(name + "liking", () -> x.liking(0, who));
        CHECK.none(name + "dye", () -> x.dye(who, 0));
        CHECK.none(name + "darn", () -> x.darn(who, 1));
        CHECK.none(name + "unravel", () -> x.unravel(who));
        CHECK.none(name + "bind", () -> x.bind(who, 0) ? 1 : 0);
        CHECK.none(name + "bind", () -> x.bind(0, who) ? 1 : 0);
        CHECK.none(name + "bind of both", () -> x.bind(who, who) ? 1 : 0);
        CHECK.none(name + "then", () -> x.then(who, 0));
        CHECK.none(name + "when", () -> x.when(who));
        CHECK.none(name + "worn", () -> x.worn(who));
        CHECK.none(name + "mates", () -> x.mates(who));
        CHECK.none(name + "way", () -> x.way(who, 0, 0));
        CHECK.none(name + "way", () -> x.way(0, who, 0));
        CHECK.none(name + "knit", () -> x.knit(who));
        CHECK.none(name + "see", () -> x.see(who, 1, 0));
        CHECK.none(name + "see nobody", () -> x.see(who, 1, -1));
        CHECK.none(name + "game", () -> x.game(who, 0, 0));
        CHECK.none(name + "game", () -> x.game(0, who, 0));
        CHECK.none(name + "far", () -> x.far(who, 0));
        CHECK.none(name + "far", () -> x.far(0, who));
        CHECK.none(name + "far of both", () -> x.far(who, who));
        CHECK.none(name + "lasts", () -> x.lasts(who));
        if (who != SockFair.NONE) {
            CHECK.none(name + "most", () -> x.most(who));
            CHECK.none(name + "rests", () -> x.rests(who));
            CHECK.none(name + "see", () -> x.see(0, 1, who));
        }
    }

    // ---- promise 2 ----

    private static void bytesInOrder() {
        CHECK.promise(2, "Twenty bytes come behind the tape, of each number the highest first");
        SockFair x = new SockFair();
        for (int place = 0; place < 20; place++) {
            int[] numbers = {0x20202020, 0x20202020, 0x20202020, 0x20202020, 0x20202020};
            numbers[place / 4] |= 0xff << 24 - 8 * (place % 4);
            CHECK.same("feed", x.feed(numbers[0], numbers[1], numbers[2], numbers[3], numbers[4]), 20);
            CHECK.same("a byte 255 at " + place, x.fair(20), 1);
            CHECK.same("its place", x.fault(), place);
        }
        CHECK.same("twenty", x.feed(0x0a0a0a0a, 0x0a0a0a0a, 0x0a0a0a0a, 0x0a0a0a0a, 0x0a0a0a0a), 20);
        CHECK.same("forty", x.feed(0x706c6169, 0x6e203920, 0x33203330, 0x20392032, 0x303b0a0a), 40);
        CHECK.same("sixty", x.feed(-1, -1, -1, -1, -1), 60);
        CHECK.same("plain 9 3 30 9 20;", x.fair(40), 0);
        int[] due = {9, 0, 3, 30, 9, 20};
        for (int what = 0; what < due.length; what++) {
            CHECK.same("person(0, " + what + ")", x.person(0, what), due[what]);
        }
    }

    private static void fullTape() {
        CHECK.promise(2, "NONE, and none come, if it would have more than 700");
        SockFair x = new SockFair();
        String full = P.repeat(10) + "alike 1" + "+1".repeat(266) + ";";
        Check.tape(x, full.substring(0, 680));
        CHECK.same("680 bytes", x.count(7), 680);
        Check.tape(x, full.substring(680));
        CHECK.same("700 bytes", x.count(7), 700);
        for (int i = 0; i < 3; i++) {
            CHECK.same("beyond 700", x.feed(0x736f636b, 0x736f636b, 0x736f636b, 0x736f636b, 0x736f636b), -1);
            CHECK.same("700 bytes", x.count(7), 700);
        }
        for (int what = 8; what <= 10; what++) {
            CHECK.same("no STATUS " + what, x.count(what), 0);
        }
        CHECK.same("the text as it was", x.fair(700), 0);
        CHECK.same("all of it", x.alike(0, 9), 267);
        for (int many = 20; many <= 700; many += 20) {
            CHECK.same("feed again", x.feed(many, 2, 3, 4, 5), many);
        }
        CHECK.same("beyond 700 again", x.feed(1, 2, 3, 4, 5), -1);
    }

    // ---- promise 3 ----

    private static void firstBytes() {
        CHECK.promise(3, "The tape's first n bytes");
        String text = P + P;
        for (int n = 0; n <= 32; n++) {
            SockFair x = new SockFair();
            Check.tape(x, text + "sock");
            boolean good = n % 16 == 0;
            CHECK.same("fair(" + n + ")", x.fair(n), good ? 0 : 1);
            // Within 'plain' the word is none; behind it the text ends too soon.
            int inWord = n % 16 < 5 ? n / 16 * 16 : n;
            CHECK.same("fault() of " + n, x.fault(), good ? -1 : inWord);
            CHECK.same("count(0) of " + n, x.count(0), good ? n / 16 : 0);
        }
        SockFair x = new SockFair();
        Check.tape(x, text + "sock");
        CHECK.same("fair(33)", x.fair(33), 1);
        CHECK.same("fault()", x.fault(), 32);
        // Cut within a NUMBER: what is left of it stands, and the text ends there.
        for (int n : new int[] {11, 12, 16, 17}) {
            SockFair y = new SockFair();
            Check.tape(y, "plain 9 3 30 9 20;");
            CHECK.same("fair(" + n + ")", y.fair(n), 1);
            CHECK.same("fault() of " + n, y.fault(), n);
        }
        // Cut within a word of a rule: what is left of it is another word.
        SockFair z = new SockFair();
        Check.tape(z, "alike worn;");
        CHECK.same("alike wor", z.fair(9), 3);
        CHECK.same("fault()", z.fault(), 6);
    }

    private static void emptyThen() {
        CHECK.promise(3, "(it is empty then)");
        SockFair x = new SockFair();
        Check.tape(x, P + P);
        CHECK.same("40 bytes", x.count(7), 40);
        CHECK.same("fair(16)", x.fair(16), 0);
        CHECK.same("none are left", x.count(7), 0);
        CHECK.illegal("fair(1)", () -> x.fair(1));
        Check.tape(x, "sock" + P);
        CHECK.same("20 bytes", x.count(7), 20);
        CHECK.same("a fault", x.fair(4), 1);
        CHECK.same("none are left", x.count(7), 0);
        CHECK.illegal("fair(1)", () -> x.fair(1));
        CHECK.same("from the first byte again", Check.tape(x, P + "  "), 18);
        CHECK.same("fair(18)", x.fair(18), 0);
        CHECK.same("fair(0) of none", x.fair(0), 0);
        Check.tape(x, P);
        CHECK.same("fair(0) of 20", x.fair(0), 0);
        CHECK.same("none are left", x.count(7), 0);
        CHECK.same("nobody", x.count(0), 0);
    }

    private static void allStays() {
        CHECK.promise(3, "or the FAULT (all stays)");
        String[] texts = {"sock", "plain 10", "alike sock", "bound 0 0", "alike 1;alike", P + "likes 3;alike 5;" + P + "bound 1 2;sock"};
        int[] codes = {1, 2, 3, 4, 5, 1};
        for (int i = 0; i < texts.length; i++) {
            String text = texts[i];
            int code = codes[i];
            Twins.staysButTape(CHECK, "a fair of " + text, x -> {
                // 20 bytes are there already: one of PEOPLE.
                CHECK.same("fair of " + text, x.fair(20 + Check.tape(x, text)), code);
                CHECK.same("none are left", x.count(7), 0);
                CHECK.same("its place", x.fault() >= 20, true);
            }, 0);
        }
    }

    private static void allAnew() {
        CHECK.promise(3, "ACTS, what is SEEN, the image are gone (STATUS stays)");
        for (int n : new int[] {0, 17, 20}) {
            SockFair x = Twins.worked();
            CHECK.same("fair(" + n + ")", x.fair(n), 0);
            int[] due = {n == 0 ? 0 : 1, 0, 0, n == 0 ? 0 : 1, 0, 0, 0, 0, 2, 1, 1};
            for (int what = 0; what < due.length; what++) {
                CHECK.same("count(" + what + ")", x.count(what), due[what]);
            }
            CHECK.same("fault()", x.fault(), -1);
            CHECK.same("undo()", x.undo(), -1);
            CHECK.same("restore()", x.restore(), false);
            CHECK.same("dyed(2)", x.dyed(2), 1);
            CHECK.same("dyed(0)", x.dyed(0), n == 0 ? 0 : 9);
            CHECK.same("count(2)", x.count(2), 0);
        }
        CHECK.promise(3, "are a FAIR, all anew");
        SockFair x = Twins.worked();
        Check.tape(x, P);
        CHECK.same("fair(36)", x.fair(36), 0);
        // Heeled 4 3 2 1 0 and plain 0 0 1 0 0, without rules.
        int[] first = {4, 3, 3, 2, 1, 0, -1, 2, 2};
        for (int what = 0; what < first.length; what++) {
            CHECK.same("person(0, " + what + ")", x.person(0, what), first[what]);
        }
        CHECK.same("alike", x.alike(0, 1), 10 - 4 - 1 - 1);
        CHECK.same("liking", x.liking(1, 0), 4);
    }

    private static void notSoMany() {
        CHECK.promise(3, "the tape has not so many, n below 0 (nothing changes)");
        SockFair x = new SockFair();
        for (int n : new int[] {1, 20, 700, -1, -20, Integer.MIN_VALUE, Integer.MAX_VALUE}) {
            CHECK.illegal("fair(" + n + ") of none", () -> x.fair(n));
        }
        CHECK.same("fair(0) of none", x.fair(0), 0);
        for (int many = 20; many <= 700; many += 340) {
            SockFair y = new SockFair();
            for (int i = 0; i < many; i += 20) {
                y.feed(0x20202020, 0x20202020, 0x20202020, 0x20202020, 0x20202020);
            }
            int beyond = many + 1;
            CHECK.illegal("one more than " + many, () -> y.fair(beyond));
            CHECK.illegal("one below 0", () -> y.fair(-1));
            CHECK.same("bytes", y.count(7), many);
            CHECK.same("all of them", y.fair(many), 0);
        }
        for (int n : new int[] {21, 700, -1, Integer.MIN_VALUE, Integer.MAX_VALUE}) {
            Twins.stays(CHECK, "fair(" + n + ")", y -> y.fair(n), Twins.NO_STATUS);
        }
    }

    // ---- promise 4 ----

    private static void places() {
        CHECK.promise(4, "The place of the latest fair()'s FAULT; NONE without");
        SockFair x = new SockFair();
        CHECK.same("of a new one", x.fault(), -1);
        Check.tape(x, "sock");
        CHECK.same("the first byte", x.fair(1), 1);
        CHECK.same("its place", x.fault(), 0);
        CHECK.illegal("fair(1)", () -> x.fair(1));
        CHECK.illegal("fair(-1)", () -> x.fair(-1));
        CHECK.same("the latest one still", x.fault(), 0);
        x.fair(Check.tape(x, "alike 1"));
        CHECK.same("the text's length", x.fault(), 7);
        x.hold(1);
        x.undo();
        x.image();
        x.restore();
        Check.tape(x, P);
        CHECK.same("whatever comes behind it", x.fault(), 7);
        CHECK.same("a good one", x.fair(16), 0);
        CHECK.same("without", x.fault(), -1);
        x.fair(Check.tape(x, "plain 0 0 1 0 21;"));
        CHECK.same("another one", x.fault(), 14);
        CHECK.same("nothing is good", x.fair(0), 0);
        CHECK.same("without", x.fault(), -1);
    }

    // ---- promise 5 ----

    private static void whatsOfCount() {
        CHECK.promise(5, "NoSuchElementException: another what");
        SockFair x = Twins.worked();
        for (int what : new int[] {-1, 11, 12, Integer.MIN_VALUE, Integer.MAX_VALUE}) {
            CHECK.none("count(" + what + ")", () -> x.count(what));
            Twins.stays(CHECK, "count(" + what + ")", y -> y.count(what), Twins.NO_STATUS);
        }
        CHECK.same("count(0)", x.count(0), 4);
        CHECK.same("count(10)", x.count(10), 1);
    }

    private static void leastCounts() {
        CHECK.promise(5, "0 PEOPLE, 1 the YEAR, 2 who is bound (bits), 3 HOLES of all");
        SockFair one = CHECK.of(P);
        int[] due = {1, 0, 0, 0, 0, 0, 0, 0, 0, 0, 0};
        for (int what = 0; what < due.length; what++) {
            CHECK.same("of one, count(" + what + ")", one.count(what), due[what]);
        }
        SockFair two = CHECK.of("plain 0 0 1 9 0;plain 0 0 1 9 0;bound 0 1;");
        CHECK.same("both bound", two.count(2), 3);
        CHECK.same("holes", two.count(3), 18);
        CHECK.same("one couple that MAY", two.count(4), 1);
    }

    private static void greatestCounts() {
        CHECK.promise(5, "4 couples that MAY be bound (whoever is bound), 5 ACTS that are kept, 6 SEEN, 7 bytes of the tape");
        SockFair x = CHECK.of("plain 0 0 1 9 0;".repeat(10) + "bound 0 9;bound 1 8;bound 2 7;bound 3 6;bound 4 5;");
        CHECK.same("ten", x.count(0), 10);
        CHECK.same("all bound", x.count(2), 1023);
        CHECK.same("all holes", x.count(3), 90);
        CHECK.same("whoever is bound", x.count(4), 45);
        for (int i = 1; i <= 41; i++) {
            x.hold(20);
            CHECK.same("acts", x.count(5), Math.min(40, i));
        }
        for (int i = 1; i <= 9; i++) {
            x.see(0, 1, -1);
            CHECK.same("seen", x.count(6), Math.min(8, i));
        }
        for (int i = 1; i <= 36; i++) {
            x.feed(0, 0, 0, 0, 0);
            CHECK.same("bytes", x.count(7), Math.min(700, 20 * i));
        }
        CHECK.same("the year", x.count(1), 820);
        for (int i = 0; i < 9; i++) {
            x.hold(20);
        }
        CHECK.same("the year", x.count(1), 980);
        CHECK.same("the year 999", x.hold(19), 999);
        CHECK.same("the year", x.count(1), 999);
        CHECK.same("none MAY", CHECK.of(P.repeat(10) + "alike 0;").count(4), 0);
        CHECK.same("none may, below 0", CHECK.of(P.repeat(10) + "alike 0-1;").count(4), 0);
    }

    private static void status() {
        CHECK.promise(5, "8 to 10 STATUS 0 to 2");
        CHECK.terms("STATUS: how many calls were refused: 0 of TEXTS with a FAULT, 1 of ACTS, 2 of what is SEEN");
        SockFair x = CHECK.of(P + P);
        x.fair(Check.tape(x, "sock"));
        CHECK.same("a text", x.count(8) * 100 + x.count(9) * 10 + x.count(10), 100);
        x.hold(0);
        x.dye(0, 10);
        x.darn(0, 0);
        x.unravel(0);
        x.bind(0, 0);
        CHECK.same("five acts", x.count(8) * 100 + x.count(9) * 10 + x.count(10), 150);
        x.see(0, 0, 1);
        x.see(0, 21, 1);
        x.see(0, 1, 0);
        CHECK.same("three of what is seen", x.count(8) * 100 + x.count(9) * 10 + x.count(10), 153);
        x.undo();
        x.restore();
        x.way(0, 0, 0);
        x.hold(1);
        x.dye(0, 0);
        x.darn(0, 1);
        x.unravel(0);
        x.bind(0, 1);
        x.see(0, 1, 1);
        x.forget();
        x.image();
        x.restore();
        x.undo();
        CHECK.same("nothing else counts", x.count(8) * 100 + x.count(9) * 10 + x.count(10), 153);
        x.fair(0);
        CHECK.same("it stays with another fair", x.count(8) * 100 + x.count(9) * 10 + x.count(10), 153);
    }

    // ---- promise 6 ----

    private static void whatsOfPerson() {
        CHECK.promise(6, "NoSuchElementException: no such PERSON (as everywhere), what");
        SockFair x = CHECK.of("heeled 9 3 30 9 20;plain 0 0 1 0 0;");
        for (int what : new int[] {-1, 9, Integer.MIN_VALUE, Integer.MAX_VALUE}) {
            CHECK.none("person(0, " + what + ")", () -> x.person(0, what));
            CHECK.none("person(2, " + what + ")", () -> x.person(2, what));
            Twins.stays(CHECK, "person(0, " + what + ")", y -> y.person(0, what), Twins.NO_STATUS);
        }
        int[] greatest = {9, 3, 3, 30, 9, 20, -1, 0, 0};
        int[] least = {0, 0, 0, 1, 0, 0, -1, 0, 0};
        for (int what = 0; what <= 8; what++) {
            CHECK.same("person(0, " + what + ")", x.person(0, what), greatest[what]);
            CHECK.same("person(1, " + what + ")", x.person(1, what), least[what]);
        }
        CHECK.promise(6, "6 to whom bound (NONE)");
        x.bind(1, 0);
        CHECK.same("person(0, 6)", x.person(0, 6), 1);
        CHECK.same("person(1, 6)", x.person(1, 6), 0);
    }

    private static void bitsOfTen() {
        CHECK.promise(6, "7 to whom one MAY be bound (bits), 8 RATHER (bits)");
        SockFair x = CHECK.of(P.repeat(10));
        for (int one = 0; one < 10; one++) {
            CHECK.same("all but oneself", x.person(one, 7), 1023 - (1 << one));
            CHECK.same("any, if bound to nobody", x.person(one, 8), 1023 - (1 << one));
        }
        x.hold(1);
        for (int one = 0; one < 10; one++) {
            CHECK.same("bound ones, too", x.person(one, 7), 1023 - (1 << one));
            CHECK.same("nobody is liked more", x.person(one, 8), 0);
        }
    }

    private static void may() {
        CHECK.terms("they MAY be bound, if that is more than 0");
        for (int given : new int[] {-1, 0, 1}) {
            SockFair x = CHECK.of(P + P + "alike 5-" + (5 - given) + ";");
            CHECK.same("alike", x.alike(0, 1), given);
            CHECK.same("may by " + given, x.person(0, 7), given > 0 ? 2 : 0);
            CHECK.same("may by " + given, x.person(1, 7), given > 0 ? 1 : 0);
            CHECK.same("couples by " + given, x.count(4), given > 0 ? 1 : 0);
        }
        CHECK.terms("without one: 10 less 'colours', less 'sizes', less 'holes', and 5 more for one pattern");
        SockFair x = CHECK.of("plain 0 0 1 0 0;heeled 9 0 1 0 0;heeled 9 0 2 0 0;plain 9 3 7 0 0;plain 9 3 6 1 0;");
        CHECK.same("10 - 9", x.alike(0, 1), 1);
        CHECK.same("10 - 9 - 1", x.alike(0, 2), 0);
        CHECK.same("10 - 9 - 6 + 5", x.alike(0, 3), 0);
        CHECK.same("10 - 9 - 5 - 1 + 5", x.alike(0, 4), 0);
        CHECK.same("may of 0", x.person(0, 7), 2);
        CHECK.same("the farthest", CHECK.of("plain 0 0 1 0 0;heeled 9 3 30 9 0;").alike(0, 1), 10 - 9 - 29 - 9);
    }

    private static void rather() {
        CHECK.terms("PEOPLE (bound ones, too) to whom one MAY be bound, and whom one LIKES more (any, if bound to nobody), as bits");
        // Charms 1, 2, 3, 2; 0 is bound to 3, who has 2.
        SockFair x = CHECK.of("plain 0 0 1 0 1;plain 0 0 1 0 1;plain 0 0 1 0 2;plain 0 0 1 0 2;plain 0 0 1 0 3;bound 0 3;likes charm;");
        CHECK.same("one more, not as much, not less", x.person(0, 8), 16);
        CHECK.same("of 3, who has 1", x.person(3, 8), 4 + 16);
        CHECK.same("any, bound ones too", x.person(1, 8), 1 + 4 + 8 + 16);
        // Liked more, but may not be.
        SockFair y = CHECK.of("plain 0 0 1 0 1;plain 0 0 1 0 1;heeled 0 0 1 0 9;bound 0 1;likes charm;alike pattern;");
        CHECK.same("who may not", y.person(0, 8), 0);
        CHECK.same("nobody may", y.person(2, 8), 0);
        // Bound by hand to who may not: liked as much, then less.
        SockFair z = CHECK.of("heeled 0 0 1 0 5;plain 0 0 1 0 5;heeled 0 0 1 0 5;bound 0 1;likes charm;alike pattern;");
        CHECK.same("as much", z.person(0, 8), 0);
        SockFair w = CHECK.of("heeled 0 0 1 0 5;plain 0 0 1 0 4;heeled 0 0 1 0 5;bound 0 1;likes charm;alike pattern;");
        CHECK.same("less", w.person(0, 8), 4);
    }

    // ---- promises 7 and 8 ----

    private static void alikes() {
        CHECK.promise(7, "(of one and itself: as of two with that SOCK)");
        SockFair x = CHECK.of("heeled 9 3 30 9 20;plain 0 0 1 0 0;");
        CHECK.same("without a rule", x.alike(0, 0), 15);
        CHECK.same("without a rule", x.alike(1, 1), 15);
        SockFair y = CHECK.of("heeled 9 3 30 9 20;plain 0 0 1 2 0;alike colours+sizes+holes+worn+100*pattern+1000*wool+2000*plain;");
        CHECK.same("by a rule", y.alike(0, 0), 1118);
        CHECK.same("by a rule", y.alike(1, 1), 5104);
        CHECK.same("of both", y.alike(0, 1), 9 + 29 + 7 + 11 + 2000);
        CHECK.same("the other way", y.alike(1, 0), 9 + 29 + 7 + 11 + 2000);
        y.dye(1, 9);
        y.darn(0, 9);
        CHECK.same("as they are now", y.alike(1, 0), 29 + 2 + 2 + 2000);
        for (int who : FAR_OFF) {
            CHECK.none("alike", () -> y.alike(who, who));
        }
    }

    private static void likings() {
        CHECK.promise(8, "LIKING");
        CHECK.terms("LIKING is what LIKES gives (without one: ALIKE and 'charm')");
        SockFair x = CHECK.of("plain 0 0 1 0 20;plain 0 0 1 0 0;");
        CHECK.same("no charm", x.liking(0, 1), 15);
        CHECK.same("as much charm as can be", x.liking(1, 0), 35);
        CHECK.same("of oneself", x.liking(0, 0), 35);
        CHECK.same("of oneself", x.liking(1, 1), 15);
        SockFair y = CHECK.of("plain 0 0 1 0 20;plain 0 0 1 0 0;alike 2048*1024*1024-1;");
        CHECK.same("the greatest", y.liking(0, 1), Integer.MAX_VALUE);
        CHECK.same("wraps", y.liking(1, 0), Integer.MIN_VALUE + 19);
        SockFair z = CHECK.of("plain 0 0 1 0 20;plain 0 0 1 0 0;likes own-charm;");
        CHECK.same("below 0", z.liking(1, 0), -20);
        CHECK.same("of oneself", z.liking(1, 1), 0);
    }

    /** An object is used for at most 512 calls: the last one answers as the first. */
    private static void lastCall() {
        CHECK.promise(5, "8 to 10 STATUS 0 to 2");
        SockFair x = new SockFair();
        for (int i = 0; i < 511; i++) {
            x.hold(21);
        }
        CHECK.same("the 512th call", x.count(9), 511);
    }
}
