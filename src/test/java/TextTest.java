/** Promises 1 to 4: a new object, feed, fair, fault; and what the language of texts says. */
public final class TextTest {
    private static final Check CHECK = new Check();
    private static final String P = "plain 0 0 1 0 0;"; // 16 bytes

    public static void main(String[] args) {
        newObject();
        feeding();
        tapes();
        allStaysWithAFault();
        allAnew();
        faultsOfLines();
        faultsOfNumbers();
        faultsOfExprs();
        depth();
        blanks();
        bytesThatAreNone();
        cutTexts();
        meaning();
        CHECK.end("TextTest");
    }

    private static void newObject() {
        SockFair x = new SockFair();
        for (int what = 0; what <= 10; what++) {
            CHECK.same("new count " + what, x.count(what), 0);
        }
        CHECK.same("new fault", x.fault(), -1);
        CHECK.none("new person", () -> x.person(0, 0));
        CHECK.same("new restore", x.restore(), false);
        CHECK.same("new undo", x.undo(), -1);
        CHECK.same("new hold", x.hold(1), 1);
    }

    private static void feeding() {
        SockFair x = new SockFair();
        for (int i = 1; i <= 35; i++) {
            CHECK.same("feed " + i, x.feed(0, 0, 0, 0, 0), 20 * i);
        }
        CHECK.same("feed beyond 700", x.feed(0, 0, 0, 0, 0), -1);
        CHECK.same("bytes stay 700", x.count(7), 700);
        CHECK.same("a byte 0 is no token", x.fair(700), 1);
        CHECK.same("its place", x.fault(), 0);
        CHECK.same("the tape is empty", x.count(7), 0);
        // The highest byte first: "plai" "n 1 " "2 3 " "4 5;" and blanks.
        CHECK.same("feed", x.feed(0x706c6169, 0x6e203120, 0x32203320, 0x3420353b, 0x20202020), 20);
        CHECK.same("fair", x.fair(20), 0);
        CHECK.same("colour", x.person(0, 0), 1);
        CHECK.same("pattern", x.person(0, 1), 0);
        CHECK.same("wool", x.person(0, 2), 2);
        CHECK.same("size", x.person(0, 3), 3);
        CHECK.same("holes", x.person(0, 4), 4);
        CHECK.same("charm", x.person(0, 5), 5);
        // All 700 bytes may be a text: 694 blanks count for nothing, 6 more are none of it.
        SockFair y = new SockFair();
        for (int i = 0; i < 35; i++) {
            y.feed(0x20202020, 0x0a0a0a0a, 0x20202020, 0x20202020, 0x20202020);
        }
        CHECK.same("700 blanks are a fair", y.fair(700), 0);
        CHECK.same("feed again", y.feed(0, 0, 0, 0, -1), 20);
    }

    private static void tapes() {
        SockFair x = new SockFair();
        CHECK.illegal("fair of more than there is", () -> x.fair(1));
        CHECK.illegal("fair below 0", () -> x.fair(-1));
        CHECK.illegal("fair far below 0", () -> x.fair(Integer.MIN_VALUE));
        CHECK.same("no fault counted", x.count(8), 0);
        CHECK.same("fair of nothing", x.fair(0), 0);
        Check.tape(x, P + "zzz");
        CHECK.illegal("fair of 41", () -> x.fair(41));
        CHECK.same("nothing changes", x.count(7), 20);
        CHECK.same("the first bytes only", x.fair(16), 0);
        CHECK.same("one of people", x.count(0), 1);
        CHECK.same("the tape is empty then", x.count(7), 0);
        Check.tape(x, "zzz");
        CHECK.same("a fault", x.fair(3), 1);
        CHECK.same("the tape is empty with a fault", x.count(7), 0);
        CHECK.illegal("fair of an empty tape", () -> x.fair(1));
        CHECK.same("the fault's place stays", x.fault(), 0);
        CHECK.same("status 0", x.count(8), 1);
        CHECK.same("fair of 0", x.fair(0), 0);
        CHECK.same("no fault then", x.fault(), -1);
        CHECK.same("nobody then", x.count(0), 0);
        CHECK.same("status 0 stays", x.count(8), 1);
    }

    private static SockFair worked() {
        SockFair x = CHECK.of(Check.FIVE + "alike 3;likes 4;");
        x.hold(2);
        x.see(0, 1, 1);
        x.image();
        x.dye(0, 7);
        x.dye(0, 10);
        x.see(0, 0, 1);
        return x;
    }

    private static void allStaysWithAFault() {
        SockFair x = worked();
        CHECK.same("fault", x.fair(Check.tape(x, P + "alike 1;likes 2;x")), 1);
        CHECK.same("place", x.fault(), 32);
        CHECK.same("people stay", x.count(0), 5);
        CHECK.same("the year stays", x.count(1), 2);
        CHECK.same("acts stay", x.count(5), 2);
        CHECK.same("seen stays", x.count(6), 1);
        CHECK.same("alike stays", x.alike(0, 3), 3);
        CHECK.same("likes stays", x.liking(0, 3), 4);
        CHECK.same("colour stays", x.person(0, 0), 7);
        CHECK.same("size stays", x.person(3, 3), 30);
        CHECK.same("charm stays", x.person(1, 5), 9);
        CHECK.same("the image stays", x.restore(), true);
        CHECK.same("as it was", x.person(0, 0), 1);
    }

    private static void allAnew() {
        SockFair x = worked();
        CHECK.same("closest", x.closest(), 1);
        CHECK.same("rests", x.rests(-1) + x.dyed(0) + x.couples(3) != 0, true);
        CHECK.same("anew", x.fair(Check.tape(x, P + P + "bound 1 0;")), 0);
        CHECK.same("people", x.count(0), 2);
        CHECK.same("year 0", x.count(1), 0);
        CHECK.same("both bound", x.count(2), 3);
        CHECK.same("holes", x.count(3), 0);
        CHECK.same("acts are gone", x.count(5), 0);
        CHECK.same("seen is gone", x.count(6), 0);
        CHECK.same("the image is gone", x.restore(), false);
        CHECK.same("nothing to undo", x.undo(), -1);
        CHECK.same("status 1 stays", x.count(9), 1);
        CHECK.same("status 2 stays", x.count(10), 1);
        CHECK.same("the rule is gone", x.alike(0, 1), 15);
        CHECK.same("likes too", x.liking(0, 1), 15);
        CHECK.same("closest", x.fair(Check.tape(x, P + "heeled 9 0 1 0 0;" + "heeled 9 0 1 0 0;")), 0);
        CHECK.same("closest", x.closest(), 12);
        CHECK.same("may", x.person(0, 7), 6);
        CHECK.same("couples", x.couples(1), 1);
    }

    private static void faultsOfLines() {
        CHECK.fault("", 0, -1);
        CHECK.fault(";", 1, 0);
        CHECK.fault("sock;", 1, 0);
        CHECK.fault("plainx 0 0 1 0 0;", 1, 0);
        CHECK.fault("plai n 0 0 1 0 0;", 1, 0);
        CHECK.fault("Plain 0 0 1 0 0;", 1, 0);
        CHECK.fault("5;", 1, 0);
        CHECK.fault("12345;", 1, 0);
        CHECK.fault("not 1;", 1, 0);
        CHECK.fault(P + "or", 1, 16);
        CHECK.fault(P + ";", 1, 16);
        CHECK.fault("plain", 1, 5);
        CHECK.fault("plain  \n", 1, 8);
        CHECK.fault("plain 0 0 1 0 0", 1, 15);
        CHECK.fault("plain 0 0 1 0 0 0;", 1, 16);
        CHECK.fault("plain 0 0 1 0 plain;", 1, 14);
        CHECK.fault("plain 0 0 1 (", 1, 12);
        CHECK.fault("plain 0 0 1 \t", 1, 12);
        CHECK.fault("plain 0 0 1 \r", 1, 12);
        CHECK.fault("plain 0 0 1 " + (char) 233, 1, 12);
        CHECK.fault("plain -1 0 1 0 0;", 1, 6);
        CHECK.fault(P.repeat(10) + "bound 0 9;", 0, -1);
        CHECK.fault(P.repeat(10) + "striped", 2, 160);
        CHECK.fault(P.repeat(10) + " heeled 99999", 2, 161);
        CHECK.fault("bound", 1, 5);
        CHECK.fault("bound 0 1;", 3, 6);
        CHECK.fault("bound 12345 0;", 2, 6);
        CHECK.fault("bound x 0;", 1, 6);
        CHECK.fault(P + "bound 0 1;" + P, 3, 24);
        CHECK.fault(P + "bound 0 0;", 4, 24);
        CHECK.fault(P + "bound 0 00000;", 2, 24);
        CHECK.fault(P + "bound 0 9999;", 3, 24);
        CHECK.fault(P + "bound 0;", 1, 23);
        CHECK.fault(P + P + "bound 0 1 0;", 1, 42);
        CHECK.fault(P + P + P + "bound 0 1;bound 1 2;", 4, 64);
        CHECK.fault(P + P + P + "bound 0 1;bound 2 1;", 4, 66);
        CHECK.fault(P + P + P + "bound 0 1;bound 2 2;", 4, 66);
        CHECK.fault(P + P + P + P + "bound 3 1;bound 0002 0;", 0, -1);
        CHECK.fault("alike 1;alike", 5, 8);
        CHECK.fault("likes 1;likes 2;", 5, 8);
        CHECK.fault("likes 1;alike 1;likes 2;", 5, 16);
        CHECK.fault("alike 1;likes 1;" + P, 0, -1);
        // The first along the text.
        CHECK.fault("plain 10 0 1 0 0;sock;", 2, 6);
        CHECK.fault("sock;plain 10 0 1 0 0;", 1, 0);
    }

    private static void faultsOfNumbers() {
        CHECK.fault("plain 9 3 30 9 20;", 0, -1);
        CHECK.fault("heeled 0009 0003 0030 0009 0020;", 0, -1);
        CHECK.fault("plain 00009 3 30 9 20;", 2, 6);
        CHECK.fault("plain 10 3 30 9 20;", 2, 6);
        CHECK.fault("plain 9 4 30 9 20;", 2, 8);
        CHECK.fault("plain 9 3 0 9 20;", 2, 10);
        CHECK.fault("plain 9 3 31 9 20;", 2, 10);
        CHECK.fault("plain 9 3 30 10 20;", 2, 13);
        CHECK.fault("plain 9 3 30 9 21;", 2, 15);
        CHECK.fault("plain 9 3 30 9 99999999999999999999;", 2, 15);
        CHECK.fault("argyle9 3 30 9 20;", 0, -1);
    }

    private static void faultsOfExprs() {
        CHECK.fault("alike;", 1, 5);
        CHECK.fault("alike", 1, 5);
        CHECK.fault("alike 1", 1, 7);
        CHECK.fault("alike 1 ", 1, 8);
        CHECK.fault("alike 1 1;", 1, 8);
        CHECK.fault("alike 1 colours;", 1, 8);
        CHECK.fault("alike 1 not 1;", 1, 8);
        CHECK.fault("alike 1 zzz;", 1, 8);
        CHECK.fault("alike 1);", 1, 7);
        CHECK.fault("alike (1;", 1, 8);
        CHECK.fault("alike ();", 1, 7);
        CHECK.fault("alike 1+;", 1, 8);
        CHECK.fault("alike +1;", 1, 6);
        CHECK.fault("alike 1<2<3;", 1, 9);
        CHECK.fault("alike 1=2<3;", 1, 9);
        CHECK.fault("alike (1=2)<3;", 0, -1);
        CHECK.fault("alike 1<2 and 2<3 or 3=4;", 0, -1);
        CHECK.fault("alike 12345;", 2, 6);
        CHECK.fault("alike 9999;", 0, -1);
        CHECK.fault("alike 1 12345;", 1, 8);
        CHECK.fault("alike charm;", 3, 6);
        CHECK.fault("alike own;", 3, 6);
        CHECK.fault("alike size;", 3, 6);
        CHECK.fault("alike alike;", 3, 6);
        CHECK.fault("alike or;", 3, 6);
        CHECK.fault("alike and;", 3, 6);
        CHECK.fault("alike zzz;", 3, 6);
        CHECK.fault("alike striped;", 3, 6);
        CHECK.fault("alike 1+not 1;", 3, 8);
        CHECK.fault("alike 1*not 1;", 3, 8);
        CHECK.fault("alike 1<not 1;", 3, 8);
        CHECK.fault("alike 1 and not 1;", 0, -1);
        CHECK.fault("alike 1 or not not 1;", 0, -1);
        CHECK.fault("alike (not 1);", 0, -1);
        CHECK.fault("alike colours+sizes+holes+worn+pattern+wool+plain;", 0, -1);
        CHECK.fault("likes alike+charm+own+size+holes;", 0, -1);
        for (String value : new String[] {"colours", "sizes", "worn", "pattern", "wool", "plain", "likes", "bound"}) {
            CHECK.fault("likes " + value + ";", 3, 6);
        }
    }

    private static void depth() {
        CHECK.fault("alike (((((1)))));", 0, -1);
        CHECK.fault("alike ((((((1))))));", 2, 12);
        CHECK.fault("alike ((((((zzz", 2, 12);
        CHECK.fault("alike ((((((or", 2, 12);
        CHECK.fault("alike ((((((not", 2, 12);
        CHECK.fault("alike (((((((", 2, 12);
        CHECK.fault("alike ((((((123456", 2, 12);
        CHECK.fault("alike (((((()", 1, 12);
        CHECK.fault("alike ((((((+", 1, 12);
        CHECK.fault("alike ((((((;", 1, 12);
        CHECK.fault("alike ((((((", 1, 12);
        CHECK.fault("alike (((((1)))))+(((((2)))));", 0, -1);
        CHECK.fault("alike not not not not not not 1;", 0, -1);
        CHECK.fault("alike not not not not not not not 1;", 2, 30);
        CHECK.fault("alike not not not not not not(not not not not not not 1);", 0, -1);
        CHECK.fault("alike not not not 1 and not not not not 1;", 0, -1);
        CHECK.fault("alike not not not not not not;", 1, 29);
        CHECK.fault("alike notnot;", 3, 6);
    }

    private static void blanks() {
        CHECK.fault("  plain\n0 0\n\n1 0 0 ;\n", 0, -1);
        CHECK.fault("plain 0 0 1 0 0;alike\n1+1 ;", 0, -1);
        CHECK.fault("alike 1 2;", 1, 8);
        CHECK.fault("alike col ours;", 3, 6);
    }

    /** Bytes that no token has, also those that would be small numbers. */
    private static void bytesThatAreNone() {
        String taken = "abcdefghijklmnopqrstuvwxyz0123456789;()+-*/<= \n";
        for (char b = 0; b < 256; b++) {
            if (taken.indexOf(b) < 0) {
                CHECK.fault(b + P, 1, 0);
                CHECK.fault("alike 1" + b + "1;", 1, 7);
                CHECK.fault("alike 1+" + b + ";", 1, 8);
            }
        }
    }

    /** What stands on the tape behind the first bytes is none of the text. */
    private static void cutTexts() {
        SockFair x = new SockFair();
        Check.tape(x, "plainx 0 0 1 0 0;");
        CHECK.same("cut in a word", x.fair(5), 1);
        CHECK.same("its end", x.fault(), 5);
        Check.tape(x, "alike 123;");
        CHECK.same("cut in a number", x.fair(7), 1);
        CHECK.same("its end", x.fault(), 7);
        Check.tape(x, "alike 1;likes zzz");
        CHECK.same("cut behind a line", x.fair(8), 0);
        Check.tape(x, "alike 1   ;");
        CHECK.same("cut in blanks", x.fair(9), 1);
        CHECK.same("its end", x.fault(), 9);
    }

    private static int value(String text) {
        return CHECK.of(text).alike(0, 1);
    }

    /** Two: colours 2 and 7, wools 1 and 1, sizes 5 and 9, holes 3 and 1, plain and heeled. */
    private static int alike(String expr) {
        return value("plain 2 1 5 3 4;heeled 7 1 9 1 6;alike " + expr + ";");
    }

    private static int likes(String expr, int one, int other) {
        return CHECK.of("plain 2 1 5 3 4;heeled 7 1 9 1 6;likes " + expr + ";").liking(one, other);
    }

    private static void meaning() {
        CHECK.same("colours", alike("colours"), 5);
        CHECK.same("sizes", alike("sizes"), 4);
        CHECK.same("holes", alike("holes"), 2);
        CHECK.same("worn", alike("worn"), 4);
        CHECK.same("pattern", alike("pattern"), 0);
        CHECK.same("wool", alike("wool"), 1);
        CHECK.same("plain", alike("plain"), 1);
        CHECK.same("one pattern", value("argyle 0 0 1 0 0;argyle 0 1 1 0 0;alike 10*pattern+wool+100*plain;"), 10);
        CHECK.same("both plain", value("plain 0 0 1 0 0;plain 0 1 1 0 0;alike plain;"), 2);
        // Without a rule 10 - 5 - 4 - 2, and no 5.
        CHECK.same("alike of likes", likes("alike", 0, 1), -1);
        CHECK.same("charm", likes("charm*10+own", 0, 1), 64);
        CHECK.same("charm the other way", likes("charm*10+own", 1, 0), 46);
        CHECK.same("size, holes", likes("size*10+holes", 0, 1), 91);
        CHECK.same("size, holes the other way", likes("size*10+holes", 1, 0), 53);
        CHECK.same("from the left", alike("10-3-2"), 5);
        CHECK.same("from the left /", alike("100/10/3"), 3);
        CHECK.same("from the left * /", alike("7/2*2"), 6);
        CHECK.same("* ahead of +", alike("2+3*4"), 14);
        CHECK.same("parentheses", alike("(2+3)*4"), 20);
        CHECK.same("cut down to 0", alike("(0-7)/2"), -3);
        CHECK.same("by 0", alike("7/0"), 0);
        CHECK.same("by 0 of a value", alike("7/pattern+1"), 1);
        CHECK.same("wraps *", alike("9999*9999*9999"), 9999 * 9999 * 9999);
        CHECK.same("wraps +", alike("2048*1024*1023+2048*1024"), Integer.MIN_VALUE);
        CHECK.same("the least by -1", alike("2048*1024*1024/(0-1)"), Integer.MIN_VALUE);
        CHECK.same("<", alike("3<4"), 1);
        CHECK.same("< of like ones", alike("4<4"), 0);
        CHECK.same("=", alike("2+2=4"), 1);
        CHECK.same("= not", alike("5=4"), 0);
        CHECK.same("not of 5", alike("not 5"), 0);
        CHECK.same("not of 0", alike("not 0"), 1);
        CHECK.same("not not 5", alike("not not 5"), 1);
        CHECK.same("not of a test", alike("not 3<4"), 0);
        CHECK.same("not ahead of and", alike("not 0 and 0"), 0);
        CHECK.same("and", alike("5 and 0-3"), 1);
        CHECK.same("and 0", alike("5 and 0"), 0);
        CHECK.same("or", alike("0 or 7"), 1);
        CHECK.same("or 0", alike("0 or 0"), 0);
        CHECK.same("and ahead of or", alike("1 or 1 and 0"), 1);
        CHECK.same("or in parentheses", alike("(1 or 1) and 0"), 0);
        CHECK.same("a test of sums", alike("1+1<1+2"), 1);
        CHECK.same("one alone is itself", alike("0-8"), -8);
        CHECK.same("a long row", alike("1" + "+1".repeat(300)), 301);
        CHECK.same("deep on the right", alike("1 or (1 and (1+(1*(1<(9)))))"), 1);
        CHECK.same("all levels wait",
            alike("0 or 1 and 1<2+3*(0 or 1 and 1<2+3*(0 or 1 and 1<2+3*(0 or 1 and 1<2+3*(0 or 1 and 1<2+3*(0 or 1 and 7=3+2*2)))))"), 1);
    }
}
