/** Promises 27 to 32 and 41: way, knit, see, forget, dyed, next, darner. */
public final class DyeTest {
    private static final Check CHECK = new Check();
    private static final String FAR = "plain 0 0 1 0 0;plain 9 0 1 0 0;";

    public static void main(String[] args) {
        ways();
        waysStayThoughts();
        knits();
        sights();
        dyed();
        next();
        fromNowOn();
        darners();
        CHECK.end("DyeTest");
    }

    private static void way(SockFair x, int one, int other, int cost, int first) {
        CHECK.same("way(" + one + ", " + other + ", 0)", x.way(one, other, 0), cost);
        CHECK.same("way(" + one + ", " + other + ", 1)", x.way(one, other, 1), first);
    }

    private static void ways() {
        SockFair x = CHECK.of(Check.FIVE);
        way(x, 0, 1, 0, 10);
        way(x, 4, 0, 8, 18);
        way(x, 4, 1, 7, 17);
        way(x, 2, 0, -1, -1);
        way(x, 3, 0, -1, -1);
        way(x, 0, 0, -1, -1);
        x.bind(0, 3);
        way(x, 0, 1, -1, -1);
        way(x, 1, 0, -1, -1);
        way(x, 1, 2, 0, 20);
        SockFair far = CHECK.of(FAR + "alike 3-colours;");
        way(far, 0, 1, 3, 70);
        way(far, 1, 0, 3, 0);
        SockFair holes = CHECK.of("plain 3 0 1 5 0;plain 3 0 1 0 0;alike 3-worn;");
        way(holes, 0, 1, 3, 33);
        way(holes, 1, 0, -1, -1);
        // Three holes or another colour cost the same: the first by colour.
        way(CHECK.of("plain 3 0 1 5 0;plain 3 0 1 0 0;alike 3-worn*(colours<5);"), 0, 1, 3, 33);
        way(CHECK.of("plain 9 0 1 5 0;plain 9 0 1 0 0;alike 3-worn*(colours<5);"), 0, 1, 3, 0);
        // Both: another colour, and all holes.
        way(CHECK.of("plain 9 0 1 9 0;plain 0 0 1 0 0;alike 1-worn-colours;"), 0, 1, 12, 9);
        way(CHECK.of(FAR + "alike colours=10;"), 1, 0, -1, -1);
        // Ahead of the new holes: bound, though unbound behind the same fair.
        way(CHECK.of("plain 2 0 1 8 0;plain 2 0 1 8 0;"), 0, 1, 0, 20);
        for (int what : new int[] {-1, 2, Integer.MAX_VALUE}) {
            CHECK.none("way", () -> x.way(1, 2, what));
            CHECK.none("way of one", () -> x.way(1, 1, what));
        }
        for (int who : new int[] {-1, 5}) {
            CHECK.none("way", () -> x.way(who, 0, 0));
            CHECK.none("way", () -> x.way(0, who, 0));
            CHECK.none("knit", () -> x.knit(who));
        }
    }

    private static void waysStayThoughts() {
        SockFair x = CHECK.of(Check.FIVE);
        x.couples(30);
        x.way(4, 0, 0);
        CHECK.same("closest", x.closest(), 1);
        CHECK.same("couples that may", x.count(4), 5);
        x.bind(2, 3);
        CHECK.same("then", x.then(0, 1), 1);
        x.undo();
        x.knit(3);
        x.dyed(0);
        x.next(0);
        x.darner();
        x.colour(1);
        x.generations(1, 60, 0);
        CHECK.same("acts", x.count(5), 0);
        CHECK.same("year", x.count(1), 0);
        CHECK.same("holes", x.count(3), 9);
        CHECK.same("colour", x.person(4, 0), 1);
        CHECK.same("alike", x.alike(0, 4), 5);
        CHECK.same("couples that may", x.count(4), 5);
        CHECK.same("then", x.then(0, 5), 1);
        CHECK.same("closest", x.closest(), 1);
        CHECK.same("couples", x.couples(8), 0);
    }

    private static void knits() {
        CHECK.same("knit", CHECK.of(Check.FIVE).knit(3), 160920);
        SockFair patterns = CHECK.of("plain 0 0 1 0 0;striped 0 0 1 0 0;plain 5 0 1 0 0;alike pattern;");
        CHECK.same("not alone", patterns.knit(0), -1);
        CHECK.same("pattern", patterns.knit(1), 10010);
        patterns.bind(1, 2);
        CHECK.same("whoever is bound", patterns.knit(1), 10010);
        SockFair wools = CHECK.of("plain 0 0 1 0 0;plain 0 3 1 0 0;alike wool;");
        CHECK.same("wool", wools.knit(0), 10000);
        CHECK.same("wool", wools.knit(1), 10003);
        CHECK.same("any", CHECK.of("plain 0 0 1 0 0;alike 1;").knit(0), 10000);
        CHECK.same("none", CHECK.of("plain 0 0 1 0 0;alike 0;").knit(0), -1);
        CHECK.same("none alone", CHECK.of("plain 0 0 1 0 0;plain 0 0 1 0 0;alike 1;").knit(1), -1);
        CHECK.same("size", CHECK.of("plain 0 0 1 0 0;alike sizes=29;").knit(0), 300000);
        CHECK.same("colour", CHECK.of("plain 0 0 1 0 0;alike colours=9;").knit(0), 10900);
        CHECK.same("without holes", CHECK.of("plain 0 0 1 3 0;alike holes=3;").knit(0), 10000);
        CHECK.same("without holes", CHECK.of("plain 0 0 1 3 0;alike worn=3;").knit(0), 10000);
        CHECK.same("without holes", CHECK.of("plain 0 0 1 3 0;alike worn=4;").knit(0), -1);
        CHECK.same("plain", CHECK.of("heeled 0 0 1 0 0;alike plain=1;").knit(0), 10000);
        CHECK.same("not plain", CHECK.of("plain 0 0 1 0 0;alike plain=1;").knit(0), 10010);
        CHECK.same("size first", CHECK.of("plain 0 0 1 0 0;alike sizes=1 and colours=0 or sizes=0 and colours=9;").knit(0), 10900);
        CHECK.same("colour, then pattern",
            CHECK.of("plain 0 0 1 0 0;alike colours=0 and pattern=0 or colours=1 and pattern=1;").knit(0), 10010);
        CHECK.same("pattern, then wool",
            CHECK.of("plain 0 0 1 0 0;alike pattern=1 and wool=0 or pattern=0 and wool=1;").knit(0), 10001);
        // As dyed and darned now: ten people, each of a colour of its own.
        StringBuilder ten = new StringBuilder("alike not colours;");
        for (int i = 0; i < 10; i++) {
            ten.append("plain ").append(i).append(" 0 1 0 0;");
        }
        SockFair x = CHECK.of(ten.toString());
        CHECK.same("of ten", x.knit(7), 10700);
        x.dye(7, 3);
        CHECK.same("dyed", x.knit(7), -1);
        CHECK.same("dyed", x.knit(3), -1);
    }

    private static void sights() {
        SockFair x = CHECK.of(Check.FIVE);
        CHECK.same("see", x.see(0, 1, 1), 1);
        CHECK.same("see", x.see(0, 20, -1), 2);
        CHECK.same("0 fairs", x.see(0, 0, 1), -1);
        CHECK.same("21 fairs", x.see(0, 21, 1), -1);
        CHECK.same("both are one", x.see(2, 1, 2), -1);
        CHECK.same("refused", x.count(10), 3);
        CHECK.same("seen", x.count(6), 2);
        for (int i = 3; i <= 8; i++) {
            CHECK.same("see", x.see(0, 1, 1), i);
        }
        CHECK.same("a ninth one", x.see(0, 1, 1), -1);
        CHECK.same("refused", x.count(10), 4);
        for (int who : new int[] {-2, 5, Integer.MIN_VALUE}) {
            CHECK.none("see, ahead", () -> x.see(who, 0, 0));
            CHECK.none("see, ahead", () -> x.see(0, 0, who));
        }
        CHECK.none("see of NONE", () -> x.see(-1, 1, 0));
        CHECK.same("refused", x.count(10), 4);
        x.forget();
        CHECK.same("forgotten", x.count(6), 0);
        CHECK.same("see", x.see(3, 1, -1), 1);
        CHECK.same("acts are others", x.count(5), 0);
    }

    private static void found(SockFair x, int many, int first, int without) {
        CHECK.same("dyed(0)", x.dyed(0), many);
        CHECK.same("dyed(1)", x.dyed(1), first);
        CHECK.same("dyed(2)", x.dyed(2), without);
    }

    private static void telling(SockFair x, int fair, int many) {
        CHECK.same("next(0)", x.next(0), fair);
        CHECK.same("next(1)", x.next(1), many);
    }

    private static void dyed() {
        SockFair x = CHECK.of(FAR + "alike 3-colours;");
        // Nothing seen: all 18, each bound or not at the first fair.
        found(x, 18, 1, 1);
        telling(x, 1, 2);
        x.see(0, 1, 1);
        found(x, 6, 7, 0);
        telling(x, 1, 1);
        x.see(1, 8, 0);
        found(x, 6, 7, 0);
        x.see(1, 9, 0);
        found(x, 0, -1, 0);
        telling(x, -1, 0);
        x.forget();
        found(x, 18, 1, 1);
        x.see(0, 1, -1);
        found(x, 12, 1, 1);
        telling(x, 1, 1);
        x.see(0, 1, 1);
        found(x, 0, -1, 0);
        x.forget();
        x.see(1, 20, -1);
        found(x, 18, 1, 1);
        // Who is bound now stays so, whatever colour.
        SockFair y = CHECK.of(FAR + "alike 3-colours;bound 0 1;");
        y.see(0, 1, 1);
        found(y, 18, 1, 1);
        y.unravel(0);
        found(y, 6, 7, 0);
        y.undo();
        found(y, 18, 1, 1);
        y.see(1, 1, -1);
        found(y, 0, -1, 0);
        SockFair five = CHECK.of(Check.FIVE);
        five.see(0, 1, 1);
        found(five, 39, 0, 1);
        // Only one by whom 2 gets 1: 0 isn't nearer to 1 than 2 is.
        SockFair three = CHECK.of("plain 0 0 1 0 0;plain 1 0 1 0 0;plain 3 0 1 0 0;alike 2-colours;");
        three.see(2, 1, 1);
        // 1 dyed 2, 3 or 4 is near to 2 alone; 2 dyed 1 is nearest to 1; by 0 dyed 3 to 9 nothing (1 is far from 2).
        found(three, 4, 12, 0);
        for (int what : new int[] {-1, 3, Integer.MAX_VALUE}) {
            CHECK.none("dyed", () -> x.dyed(what));
        }
        SockFair nobody = new SockFair();
        found(nobody, 0, -1, 1);
        telling(nobody, -1, 0);
    }

    private static void next() {
        // Bound at the 3rd fair first, if near enough: ahead of that all are alike.
        SockFair x = CHECK.of(FAR + "alike (colours<3)*(worn-2);");
        telling(x, 3, 2);
        x.see(0, 3, 1);
        found(x, 6, 7, 0);
        telling(x, 1, 1);
        x.forget();
        x.see(0, 2, 1);
        telling(x, -1, 0);
        // Three: 0 by colours is with 1, with 2 or with nobody, and so on.
        SockFair y = CHECK.of("plain 0 0 1 0 0;plain 4 0 1 0 0;plain 9 0 1 0 0;alike 3-colours;");
        // 0 dyed near 1 (2 to 6) or 2 (7 to 9); 1 near 0 (0 to 2) or 2 (7 to 9); 2 near 0 or 1: 01, 02, 12, none.
        telling(y, 1, 4);
        // At the 8th fair only.
        telling(CHECK.of(FAR + "alike (colours<3)*(worn-13);"), 8, 2);
        // Ten of all colours: whoever is dyed is bound to whose colour it is, in 45 couples.
        StringBuilder ten = new StringBuilder("alike not colours;");
        for (int i = 0; i < 10; i++) {
            ten.append("plain ").append(i).append(" 0 1 0 0;");
        }
        telling(CHECK.of(ten.toString()), 1, 45);
        found(CHECK.of(ten.toString()), 90, 1, 1);
        for (int what : new int[] {-1, 2}) {
            CHECK.none("next", () -> x.next(what));
        }
    }

    /** What is SEEN is behind fairs from now, whenever now is. */
    private static void fromNowOn() {
        SockFair x = CHECK.of("plain 0 0 1 0 0;plain 0 0 1 7 0;");
        x.see(0, 1, 1);
        CHECK.same("so", x.dyed(2), 1);
        x.hold(1);
        CHECK.same("worn through at the next one", x.dyed(2), 0);
        x.undo();
        CHECK.same("so again", x.dyed(2), 1);
    }

    private static void darners() {
        CHECK.same("darner", CHECK.of(Check.FIVE).darner(), 4);
        CHECK.same("nobody", new SockFair().darner(), -1);
        CHECK.same("none has holes", CHECK.of("plain 0 0 1 0 0;plain 0 0 1 0 0;").darner(), -1);
        // 0 and 1 are worn through; either one, darned, is alike to 2.
        SockFair x = CHECK.of("plain 0 0 1 9 0;plain 0 0 1 9 0;plain 0 0 1 0 0;");
        CHECK.same("without", x.couples(5), 0);
        CHECK.same("of like ones the least", x.darner(), 0);
        x.darn(0, 9);
        CHECK.same("not more than without", x.darner(), -1);
        // Behind 5 fairs: with 4 holes a couple is worn through just then, with 3 not.
        CHECK.same("4 holes", CHECK.of("plain 0 0 1 4 0;plain 0 0 1 0 0;").darner(), 0);
        CHECK.same("3 holes", CHECK.of("plain 0 0 1 3 0;plain 0 0 1 0 0;").darner(), -1);
        CHECK.same("the second one", CHECK.of("plain 0 0 1 0 0;plain 0 0 1 4 0;").darner(), 1);
        CHECK.same("both are worn", CHECK.of("plain 0 0 1 4 0;plain 0 0 1 4 0;").darner(), -1);
    }
}
