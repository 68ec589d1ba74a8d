/** Promises 9 to 14, 42 and 43: hold, dye, darn, unravel, bind, undo; image, restore. */
public final class ActsTest {
    private static final Check CHECK = new Check();

    public static void main(String[] args) {
        fairs();
        wornThrough();
        years();
        dyes();
        darns();
        byHand();
        undoing();
        fortyActs();
        images();
        CHECK.end("ActsTest");
    }

    private static void row(SockFair x, String when, int... mates) {
        for (int one = 0; one < mates.length; one++) {
            CHECK.same(when + ", mate of " + one, x.person(one, 6), mates[one]);
        }
    }

    private static void fairs() {
        SockFair x = CHECK.of(Check.FIVE);
        CHECK.same("hold", x.hold(1), 1);
        row(x, "most alike first", 1, 0, -1, -1, -1);
        CHECK.same("a hole more", x.person(0, 4), 1);
        CHECK.same("9 at most", x.person(4, 4), 9);
        CHECK.same("hold", x.hold(1), 2);
        CHECK.same("9 at most still", x.person(4, 4), 9);
        // Of like ones the first by the lesser one, then the other one.
        SockFair y = CHECK.of("plain 0 0 1 0 0;".repeat(5));
        y.hold(1);
        row(y, "like ones", 1, 0, 3, 2, -1);
        // 0 is between 1 and 2, as far from both; 1 and 3 are the nearest ones.
        SockFair z = CHECK.of("plain 4 0 1 0 0;plain 1 0 1 0 0;plain 7 0 1 0 0;plain 2 0 1 0 0;");
        z.hold(1);
        row(z, "nearest ones", 2, 3, 0, 1);
        // Who is bound stays so, and isn't asked.
        SockFair w = CHECK.of(Check.FIVE + "bound 0 3;");
        w.hold(1);
        row(w, "0 is bound to 3", 3, 2, 1, 0, -1);
        // MAY is more than 0: 2 and 4 give 0.
        SockFair v = CHECK.of("striped 1 1 10 0 3;plain 1 0 12 8 7;");
        CHECK.same("alike 0", v.alike(0, 1), 0);
        v.hold(1);
        row(v, "alike 0", -1, -1);
        // New HOLES come behind the bindings, and count at the next FAIR.
        SockFair u = CHECK.of("plain 0 0 1 0 0;plain 0 0 1 0 0;alike worn-1;");
        u.hold(1);
        row(u, "ahead of the holes", -1, -1);
        u.hold(1);
        row(u, "at the second fair", 1, 0);
        // Three in one act are three.
        SockFair t = CHECK.of("plain 0 0 1 0 0;plain 0 0 1 0 0;alike worn-3;");
        CHECK.same("hold", t.hold(3), 3);
        row(t, "at the third fair", 1, 0);
        CHECK.same("one act", t.count(5), 1);
    }

    private static void wornThrough() {
        SockFair x = CHECK.of("plain 0 0 1 7 0;plain 0 0 1 2 0;plain 0 0 30 8 0;plain 0 0 30 0 0;bound 2 3;");
        x.hold(1);
        row(x, "2 is worn through", 1, 0, -1, -1);
        x.hold(1);
        row(x, "0 is worn through", -1, -1, -1, -1);
        CHECK.same("holes of 1", x.person(1, 4), 4);
        // Bound and unbound at one fair.
        SockFair y = CHECK.of("plain 0 0 1 8 0;plain 0 0 1 8 0;");
        y.hold(1);
        row(y, "at once", -1, -1);
        // By hand with 9 holes: until the next fair.
        CHECK.same("bind", y.bind(0, 1), true);
        row(y, "by hand", 1, 0);
        y.hold(1);
        row(y, "unbound again", -1, -1);
        // 9 holes of a text are worn through only at a fair.
        SockFair z = CHECK.of("plain 0 0 1 9 0;plain 0 0 1 0 0;bound 0 1;");
        row(z, "told so", 1, 0);
        z.hold(20);
        row(z, "far behind", -1, -1);
        CHECK.same("all worn", z.count(3), 18);
    }

    private static void years() {
        SockFair x = CHECK.of("plain 0 0 1 0 0;");
        CHECK.same("0 fairs", x.hold(0), -1);
        CHECK.same("-1 fairs", x.hold(-1), -1);
        CHECK.same("21 fairs", x.hold(21), -1);
        CHECK.same("so many fairs", x.hold(Integer.MAX_VALUE), -1);
        CHECK.same("refused", x.count(9), 4);
        CHECK.same("no act", x.count(5), 0);
        for (int i = 1; i <= 49; i++) {
            CHECK.same("hold 20", x.hold(20), 20 * i);
        }
        CHECK.same("year 1000", x.hold(20), -1);
        CHECK.same("year 999", x.hold(19), 999);
        CHECK.same("year 1000", x.hold(1), -1);
        CHECK.same("the year stays", x.count(1), 999);
        CHECK.same("refused", x.count(9), 6);
        CHECK.same("undo", x.undo(), 39);
        CHECK.same("the year", x.count(1), 980);
    }

    private static void dyes() {
        SockFair x = CHECK.of(Check.FIVE);
        CHECK.same("dye", x.dye(0, 9), 1);
        CHECK.same("colour", x.person(0, 0), 9);
        CHECK.same("dye", x.dye(0, 0), 9);
        CHECK.same("dye with its own", x.dye(0, 0), 0);
        CHECK.same("acts", x.count(5), 3);
        CHECK.same("dye 10", x.dye(0, 10), -1);
        CHECK.same("dye -1", x.dye(0, -1), -1);
        CHECK.same("colour stays", x.person(0, 0), 0);
        CHECK.same("acts", x.count(5), 3);
        CHECK.same("refused", x.count(9), 2);
        for (int who : new int[] {-1, 5}) {
            CHECK.none("dye", () -> x.dye(who, 10));
            CHECK.none("darn", () -> x.darn(who, 0));
            CHECK.none("unravel", () -> x.unravel(who));
            CHECK.none("bind", () -> x.bind(who, 0) ? 1 : 0);
            CHECK.none("bind", () -> x.bind(0, who) ? 1 : 0);
        }
        CHECK.none("bind of nobody twice", () -> x.bind(7, 7) ? 1 : 0);
        CHECK.same("those aren't refused acts", x.count(9), 2);
    }

    private static void darns() {
        SockFair x = CHECK.of(Check.FIVE);
        CHECK.same("darn", x.darn(4, 3), 5);
        CHECK.same("darn all", x.darn(4, 9), 0);
        CHECK.same("darn none", x.darn(4, 1), 0);
        CHECK.same("darn 0", x.darn(4, 0), -1);
        CHECK.same("darn 10", x.darn(4, 10), -1);
        CHECK.same("darn below 0", x.darn(4, Integer.MIN_VALUE), -1);
        CHECK.same("acts", x.count(5), 3);
        CHECK.same("refused", x.count(9), 3);
        CHECK.same("undo", x.undo(), 2);
        CHECK.same("undo", x.undo(), 1);
        CHECK.same("holes", x.person(4, 4), 5);
        CHECK.same("undo", x.undo(), 0);
        CHECK.same("holes", x.person(4, 4), 8);
    }

    private static void byHand() {
        SockFair x = CHECK.of(Check.FIVE);
        CHECK.same("bind those who may not", x.bind(3, 0), true);
        row(x, "by hand", 3, -1, -1, 0, -1);
        CHECK.same("bits", x.count(2), 9);
        CHECK.same("one is bound", x.bind(0, 1), false);
        CHECK.same("the other one is bound", x.bind(1, 3), false);
        CHECK.same("both are one", x.bind(2, 2), false);
        CHECK.same("already so", x.bind(0, 3), false);
        CHECK.same("refused", x.count(9), 4);
        CHECK.same("acts", x.count(5), 1);
        CHECK.same("unravel", x.unravel(0), 3);
        row(x, "unravelled", -1, -1, -1, -1, -1);
        CHECK.same("unravel nobody", x.unravel(3), -1);
        CHECK.same("refused", x.count(9), 5);
        CHECK.same("acts", x.count(5), 2);
        CHECK.same("bind", x.bind(0, 1), true);
        CHECK.same("unravel by the other one", x.unravel(1), 0);
    }

    private static void undoing() {
        SockFair x = CHECK.of(Check.FIVE + "bound 2 3;");
        x.hold(4);
        x.dye(2, 9);
        x.darn(4, 5);
        x.unravel(3);
        x.bind(3, 4);
        CHECK.same("undo bind", x.undo(), 4);
        row(x, "ahead of bind", 1, 0, -1, -1, -1);
        CHECK.same("undo unravel", x.undo(), 3);
        row(x, "ahead of unravel", 1, 0, 3, 2, -1);
        CHECK.same("undo darn", x.undo(), 2);
        CHECK.same("holes", x.person(4, 4), 9);
        CHECK.same("undo dye", x.undo(), 1);
        CHECK.same("colour", x.person(2, 0), 1);
        CHECK.same("undo hold", x.undo(), 0);
        CHECK.same("year", x.count(1), 0);
        CHECK.same("holes", x.count(3), 9);
        CHECK.same("holes of 4", x.person(4, 4), 8);
        row(x, "ahead of hold", -1, -1, 3, 2, -1);
        CHECK.same("nothing more", x.undo(), -1);
        CHECK.same("that is no refused act", x.count(9), 0);
        CHECK.same("couples are seen anew", x.couples(1), 2);
    }

    private static void fortyActs() {
        SockFair x = CHECK.of("plain 0 0 1 0 0;");
        for (int i = 1; i <= 45; i++) {
            x.dye(0, i % 10);
            CHECK.same("acts", x.count(5), Math.min(40, i));
        }
        for (int i = 39; i >= 0; i--) {
            CHECK.same("undo", x.undo(), i);
            CHECK.same("colour", x.person(0, 0), (i + 5) % 10);
        }
        CHECK.same("the oldest ones are lost", x.undo(), -1);
        CHECK.same("colour", x.person(0, 0), 5);
        for (int i = 1; i <= 3; i++) {
            CHECK.same("again", x.dye(0, 5 + i), 4 + i);
        }
        CHECK.same("undo", x.undo(), 2);
        CHECK.same("colour", x.person(0, 0), 7);
    }

    private static void imagesOfManyActs() {
        SockFair x = CHECK.of("plain 0 0 1 0 0;");
        for (int i = 1; i <= 45; i++) {
            x.dye(0, i % 10);
        }
        x.image();
        for (int i = 0; i < 7; i++) {
            x.dye(0, 0);
        }
        CHECK.same("restore", x.restore(), true);
        for (int i = 39; i >= 0; i--) {
            CHECK.same("undo", x.undo(), i);
            CHECK.same("colour", x.person(0, 0), (i + 5) % 10);
        }
    }

    private static void imagesOfSights() {
        SockFair x = CHECK.of(Check.FIVE);
        x.see(0, 1, 1);
        x.see(2, 7, -1);
        x.image();
        CHECK.same("so", x.dyed(2), 1);
        x.forget();
        x.see(3, 9, 4);
        x.see(1, 2, 3);
        x.dye(0, 9);
        CHECK.same("not so", x.dyed(2), 0);
        CHECK.same("1 gets 2 (7), 0 nobody", x.then(0, 1), -1);
        CHECK.same("restore", x.restore(), true);
        CHECK.same("so again", x.dyed(2), 1);
        CHECK.same("so many", x.dyed(0), 39);
        CHECK.same("bound behind a fair", x.then(0, 1), 1);
        CHECK.same("alike", x.closest(), 1);
        x.see(2, 8, 0);
        CHECK.same("not so", x.dyed(2), 0);
    }

    private static void images() {
        SockFair x = CHECK.of(Check.FIVE);
        CHECK.same("no image", x.restore(), false);
        x.dye(0, 4);
        x.hold(2);
        x.see(0, 1, 1);
        x.see(2, 3, -1);
        x.image();
        x.undo();
        x.undo();
        x.bind(0, 3);
        x.dye(1, 9);
        x.darn(4, 2);
        x.forget();
        x.see(4, 1, -1);
        x.hold(99);
        CHECK.same("restore", x.restore(), true);
        CHECK.same("year", x.count(1), 2);
        CHECK.same("bound", x.count(2), 3);
        CHECK.same("holes", x.count(3), 2 + 3 + 2 + 2 + 9);
        CHECK.same("acts", x.count(5), 2);
        CHECK.same("seen", x.count(6), 2);
        CHECK.same("refused stays", x.count(9), 1);
        CHECK.same("colour", x.person(0, 0), 4);
        CHECK.same("colour", x.person(1, 0), 2);
        row(x, "restored", 1, 0, -1, -1, -1);
        CHECK.same("all is so", x.dyed(2), 1);
        CHECK.same("undo what was kept", x.undo(), 1);
        CHECK.same("year", x.count(1), 0);
        CHECK.same("colour", x.person(0, 0), 4);
        CHECK.same("undo what was kept", x.undo(), 0);
        CHECK.same("colour", x.person(0, 0), 1);
        CHECK.same("restore again", x.restore(), true);
        CHECK.same("year", x.count(1), 2);
        CHECK.same("acts", x.count(5), 2);
        x.hold(1);
        x.image();
        x.hold(1);
        CHECK.same("another image in its place", x.restore(), true);
        CHECK.same("year", x.count(1), 3);
        CHECK.same("the tape is none of it", x.feed(0, 0, 0, 0, 0), 20);
        x.restore();
        CHECK.same("bytes", x.count(7), 20);
        imagesOfManyActs();
        imagesOfSights();
        SockFair y = new SockFair();
        y.image();
        CHECK.same("an image of nobody", y.restore(), true);
    }
}
