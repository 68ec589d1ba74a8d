/** Promises 15 to 19 and 39: then, when, worn, couples, single, lasts. */
public final class CourseTest {
    private static final Check CHECK = new Check();

    public static void main(String[] args) {
        five();
        later();
        last();
        edges();
        CHECK.end("CourseTest");
    }

    private static void five() {
        SockFair x = CHECK.of(Check.FIVE);
        for (int fairs = 0; fairs <= 30; fairs++) {
            boolean bound = fairs >= 1 && fairs <= 7;
            CHECK.same("then(0, " + fairs + ")", x.then(0, fairs), bound ? 1 : -1);
            CHECK.same("then(1, " + fairs + ")", x.then(1, fairs), bound ? 0 : -1);
            CHECK.same("then(2, " + fairs + ")", x.then(2, fairs), -1);
            CHECK.same("couples(" + fairs + ")", x.couples(fairs), bound ? 1 : 0);
            CHECK.same("single(" + fairs + ")", x.single(fairs), bound ? 28 : 31);
        }
        CHECK.same("when", x.when(0), 1);
        CHECK.same("when", x.when(2), -1);
        int[] worn = {9, 8, 9, 9, 1};
        for (int one = 0; one < 5; one++) {
            CHECK.same("worn", x.worn(one), worn[one]);
            CHECK.same("lasts", x.lasts(one), -1);
        }
        x.hold(1);
        CHECK.same("when now", x.when(0), 0);
        CHECK.same("then now", x.then(0, 0), 1);
        CHECK.same("worn", x.worn(4), 0);
        CHECK.same("lasts", x.lasts(0), 7);
        CHECK.same("lasts", x.lasts(1), 7);
        CHECK.same("lasts of who has nobody", x.lasts(2), -1);
        x.hold(6);
        CHECK.same("lasts", x.lasts(0), 1);
    }

    /** Whom one gets later: 2 is alike to 0, who has 1 until 1 is worn through. */
    private static void later() {
        SockFair x = CHECK.of("plain 0 0 1 0 0;plain 0 0 1 6 0;plain 0 0 1 0 0;alike 1+20*(holes=6);");
        // 01 and 12 give 21 first, 02 gives 1: 0 and 1 are bound; 1 has 9 holes behind 3 fairs, and always 1.
        CHECK.same("then 1", x.then(0, 1), 1);
        CHECK.same("then 2", x.then(0, 2), 1);
        CHECK.same("then 3", x.then(0, 3), -1);
        CHECK.same("single 3", x.single(3), 7);
        // At the 4th fair 1 has 9 and the others 3: 01 is bound again (21), and unbound at once.
        CHECK.same("then 4", x.then(0, 4), -1);
        // At the 5th fair it is 9 and 4: all give 1, and 01 is the first.
        CHECK.same("then 5", x.then(0, 5), -1);
        CHECK.same("then 2 of 2", x.then(2, 2), -1);
        CHECK.same("when of 2", x.when(2), -1);
        SockFair y = CHECK.of("plain 0 0 1 0 0;plain 0 0 1 7 0;plain 0 0 1 0 0;alike (worn<9)*(worn+1);");
        // Now 01 and 12 give 8, 02 1. Behind 2 fairs 1 is worn through; at the 3rd 01 gives 0 (2 and 9), 02 5.
        CHECK.same("then", y.then(0, 1), 1);
        CHECK.same("then", y.then(0, 2), -1);
        CHECK.same("then", y.then(0, 3), 2);
        CHECK.same("when of 2", y.when(2), 3);
        CHECK.same("when of 1", y.when(1), 1);
        CHECK.same("couples", y.couples(3), 1);
        CHECK.same("single", y.single(3), 2);
        CHECK.same("then", y.then(2, 8), 0);
        CHECK.same("then", y.then(2, 9), -1);
        y.hold(3);
        CHECK.same("lasts", y.lasts(2), 6);
        CHECK.same("as it was told", y.person(2, 6), 0);
        y.unravel(0);
        y.bind(0, 1);
        CHECK.same("lasts of who is worn through", y.lasts(0), 1);
        CHECK.same("then", y.then(0, 1), -1);
        CHECK.same("lasts by the other one", y.lasts(1), 1);
    }

    /** Alike when both have 7 holes, at the 8th fair: the last one behind which any whole sock is bound. */
    private static void last() {
        SockFair x = CHECK.of("plain 0 0 1 0 0;plain 0 0 1 0 0;alike worn-13;");
        CHECK.same("when", x.when(0), 8);
        CHECK.same("couples behind 7", x.couples(7), 0);
        CHECK.same("couples behind 8", x.couples(8), 1);
        CHECK.same("couples behind 9", x.couples(9), 0);
        CHECK.same("hold", x.hold(8), 8);
        CHECK.same("bound", x.count(2), 3);
        CHECK.same("lasts", x.lasts(0), 1);
    }

    private static void edges() {
        SockFair x = CHECK.of(Check.FIVE);
        for (int fairs : new int[] {-1, 31, Integer.MAX_VALUE, Integer.MIN_VALUE}) {
            CHECK.illegal("then", () -> x.then(0, fairs));
            CHECK.illegal("couples", () -> x.couples(fairs));
            CHECK.illegal("single", () -> x.single(fairs));
            CHECK.none("then, nobody first", () -> x.then(5, fairs));
        }
        for (int who : new int[] {-1, 5, Integer.MIN_VALUE}) {
            CHECK.none("then", () -> x.then(who, 1));
            CHECK.none("when", () -> x.when(who));
            CHECK.none("worn", () -> x.worn(who));
            CHECK.none("lasts", () -> x.lasts(who));
        }
        SockFair y = new SockFair();
        CHECK.same("couples of nobody", y.couples(30), 0);
        CHECK.same("single of nobody", y.single(30), 0);
        CHECK.none("when of nobody", () -> y.when(0));
        SockFair z = CHECK.of("plain 0 0 1 9 0;plain 0 0 1 9 0;");
        CHECK.same("bound at each fair, never behind one", z.when(0), -1);
    }
}
