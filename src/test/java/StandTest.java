/** Promises 5 to 8: count, person, alike, liking. */
public final class StandTest {
    private static final Check CHECK = new Check();

    public static void main(String[] args) {
        counts();
        people();
        alikes();
        likings();
        CHECK.end("StandTest");
    }

    private static void counts() {
        SockFair x = CHECK.of(Check.FIVE + "bound 3 2;");
        CHECK.same("people", x.count(0), 5);
        CHECK.same("year", x.count(1), 0);
        CHECK.same("bound", x.count(2), 4 + 8);
        CHECK.same("holes", x.count(3), 9);
        CHECK.same("couples that may, whoever is bound", x.count(4), 5);
        CHECK.same("hold", x.hold(3), 3);
        CHECK.same("year", x.count(1), 3);
        CHECK.same("holes", x.count(3), 3 + 4 + 3 + 3 + 9);
        CHECK.same("acts", x.count(5), 1);
        CHECK.same("see", x.see(0, 1, -1), 1);
        CHECK.same("seen", x.count(6), 1);
        x.feed(0, 0, 0, 0, 0);
        CHECK.same("bytes", x.count(7), 20);
        CHECK.same("fair", x.fair(20), 1);
        CHECK.same("refused texts", x.count(8), 1);
        x.hold(0);
        x.dye(0, -1);
        CHECK.same("refused acts", x.count(9), 2);
        x.see(0, 0, 1);
        x.see(0, 1, 0);
        x.see(0, 21, 1);
        CHECK.same("refused sights", x.count(10), 3);
        for (int what : new int[] {-1, 11, Integer.MAX_VALUE, Integer.MIN_VALUE}) {
            CHECK.none("count", () -> x.count(what));
        }
    }

    private static void people() {
        SockFair x = CHECK.of(Check.FIVE + "heeled 3 3 7 2 20;bound 1 0;");
        int[] due = {3, 3, 3, 7, 2, 20, -1};
        for (int what = 0; what < due.length; what++) {
            CHECK.same("person 5, " + what, x.person(5, what), due[what]);
        }
        CHECK.same("bound to", x.person(0, 6), 1);
        CHECK.same("bound to", x.person(1, 6), 0);
        SockFair y = CHECK.of(Check.FIVE);
        int[] may = {2 + 4 + 16, 1 + 4 + 16, 1 + 2, 0, 1 + 2};
        for (int one = 0; one < 5; one++) {
            CHECK.same("may of " + one, y.person(one, 7), may[one]);
            CHECK.same("rather of " + one + ", who has nobody", y.person(one, 8), may[one]);
        }
        // Likings of 0: 1 gives 12 + 9, 2 gives 10 + 3, 4 gives 5 + 7.
        y.bind(0, 4);
        CHECK.same("rather than 4", y.person(0, 8), 2 + 4);
        CHECK.same("may stays", y.person(0, 7), 2 + 4 + 16);
        // Likings of 4: 0 gives 5 + 5, 1 gives 6 + 9.
        CHECK.same("rather than 0", y.person(4, 8), 2);
        // Bound ones, too, are in the others' bits.
        CHECK.same("rather of 2", y.person(2, 8), 3);
        y.unravel(0);
        y.bind(0, 2);
        CHECK.same("rather than 2", y.person(0, 8), 2);
        y.unravel(0);
        y.bind(0, 1);
        CHECK.same("rather than the best", y.person(0, 8), 0);
        y.unravel(0);
        y.bind(0, 3);
        CHECK.same("rather than one who may not be bound", y.person(0, 8), 2 + 4 + 16);
        // Alike ones are not liked more.
        SockFair z = CHECK.of("plain 0 0 1 0 1;plain 0 0 1 0 1;plain 0 0 1 0 1;bound 0 1;");
        CHECK.same("not more", z.person(0, 8), 0);
        for (int what : new int[] {-1, 9, Integer.MIN_VALUE}) {
            CHECK.none("person", () -> x.person(0, what));
        }
        for (int who : new int[] {-1, 6, Integer.MAX_VALUE, Integer.MIN_VALUE}) {
            CHECK.none("person", () -> x.person(who, 0));
            CHECK.none("alike", () -> x.alike(who, 0));
            CHECK.none("alike", () -> x.alike(0, who));
            CHECK.none("liking", () -> x.liking(who, 0));
            CHECK.none("liking", () -> x.liking(0, who));
        }
    }

    private static void alikes() {
        SockFair x = CHECK.of(Check.FIVE);
        int[][] due = {{15, 12, 10, -18, 5}, {12, 15, 7, -17, 6}, {10, 7, 15, -18, 0}, {-18, -17, -18, 15, -24}};
        for (int one = 0; one < due.length; one++) {
            for (int other = 0; other < 5; other++) {
                CHECK.same("alike " + one + " " + other, x.alike(one, other), due[one][other]);
            }
        }
        x.dye(4, 2);
        CHECK.same("dyed", x.alike(1, 4), 7);
        x.darn(4, 8);
        CHECK.same("darned", x.alike(1, 4), 13);
        x.hold(1);
        CHECK.same("both have a hole more", x.alike(1, 4), 13);
        x.undo();
        x.undo();
        x.undo();
        CHECK.same("undone", x.alike(1, 4), 6);
        SockFair y = CHECK.of("plain 0 0 1 4 0;heeled 0 1 9 3 0;alike worn*100+plain*10+pattern+wool+colours+sizes+holes;");
        CHECK.same("of itself", y.alike(0, 0), 822);
        CHECK.same("of itself", y.alike(1, 1), 602);
        CHECK.same("of both", y.alike(1, 0), 719);
    }

    private static void likings() {
        SockFair x = CHECK.of(Check.FIVE);
        CHECK.same("liking", x.liking(0, 1), 21);
        CHECK.same("liking", x.liking(1, 0), 17);
        CHECK.same("liking", x.liking(3, 4), -24 + 7);
        CHECK.same("of oneself", x.liking(4, 4), 15 + 7);
        SockFair y = CHECK.of(Check.FIVE + "likes alike*1000+charm*100+own*10-holes;alike holes;");
        CHECK.same("liking by a rule", y.liking(0, 1), 1000 + 900 + 50 - 1);
        CHECK.same("the other way", y.liking(1, 0), 1000 + 500 + 90);
        CHECK.same("of oneself", y.liking(4, 4), 700 + 70 - 8);
        y.darn(1, 1);
        CHECK.same("darned", y.liking(0, 1), 900 + 50);
    }
}
