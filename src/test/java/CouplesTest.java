/** Promises 20 to 26, 35, 37, 38, 40: closest, lonely, faithful, most, best, rests, mates, ring, far, circles, colour. */
public final class CouplesTest {
    private static final Check CHECK = new Check();

    /** Three, each of whom likes the next one most and the one ahead least. */
    private static final String ROUND = "plain 0 0 1 0 0;plain 0 0 1 0 1;plain 0 0 1 0 2;"
        + "likes 3-(charm-own+3-(charm-own+3)/3*3);";

    public static void main(String[] args) {
        closest();
        lonely();
        faithful();
        most();
        best();
        rests();
        ring();
        steps();
        oneColour();
        nobody();
        CHECK.end("CouplesTest");
    }

    private static void closest() {
        SockFair x = CHECK.of(Check.FIVE);
        CHECK.same("closest", x.closest(), 1);
        x.bind(0, 1);
        CHECK.same("whoever is bound", x.closest(), 1);
        x.dye(2, 9);
        x.dye(0, 9);
        // 02 gives 10, 01 and 14 6.
        CHECK.same("dyed", x.closest(), 2);
        CHECK.same("may not", CHECK.of("plain 0 0 1 0 0;argyle 9 0 30 0 0;heeled 9 0 29 0 0;alike 0-sizes;").closest(), 12);
        CHECK.same("of like ones", CHECK.of("plain 0 0 1 0 0;".repeat(4) + "alike 0-9;").closest(), 1);
        CHECK.same("the last two", CHECK.of("plain 0 0 1 0 0;".repeat(8) + "heeled 1 0 9 0 0;heeled 1 0 9 0 0;alike pattern+(plain=0);").closest(), 89);
        CHECK.same("one alone", CHECK.of("plain 0 0 1 0 0;").closest(), -1);
    }

    private static void lonely() {
        SockFair x = CHECK.of(Check.FIVE);
        CHECK.same("lonely", x.lonely(), 8);
        x.bind(0, 1);
        CHECK.same("whoever is bound", x.lonely(), 8);
        CHECK.same("all", CHECK.of(Check.FIVE + "alike 0;").lonely(), 31);
        CHECK.same("none", CHECK.of(Check.FIVE + "alike 1;").lonely(), 0);
        CHECK.same("one alone", CHECK.of("plain 0 0 1 0 0;").lonely(), 1);
    }

    private static void faithful() {
        SockFair x = CHECK.of(Check.FIVE);
        CHECK.same("no couple", x.faithful(), 0);
        x.hold(1);
        CHECK.same("the best for both", x.faithful(), 1);
        x.undo();
        x.bind(0, 2);
        // 0 would rather have 1 (21 against 13), and 1, who has nobody, would rather have 0.
        CHECK.same("0 would leave", x.faithful(), 0);
        x.bind(1, 4);
        // 1 likes 0 17 and 4 13: would leave, too.
        CHECK.same("both would leave", x.faithful(), 0);
        SockFair y = CHECK.of(ROUND + "heeled 0 0 1 0 9;bound 0 3;");
        CHECK.same("others who have nobody", y.faithful(), 0);
        SockFair z = CHECK.of(ring("bound 0 3;bound 1 4;bound 2 5;"));
        CHECK.same("each would rather have one who wouldn't", z.faithful(), 3);
        z.unravel(1);
        // 1 has nobody now and would rather have any: so 0 leaves 3 for 1; 2 would rather have 0 alone, not 1.
        CHECK.same("1 is free", z.faithful(), 1);
    }

    /** 0 would rather have 1, 1 2, 2 0; the others nobody, if they have somebody. */
    private static String ring(String bound) {
        return "plain 0 0 1 0 0;plain 0 0 1 0 1;plain 0 0 1 0 2;" + "plain 0 0 1 0 9;".repeat(3) + bound
            + "likes 1+(own<3 and charm<3 and (charm-own=1 or own-charm=2));";
    }

    private static void most() {
        SockFair x = CHECK.of(Check.FIVE);
        int[] due = {2, 4, 0, -1, 1};
        CHECK.same("most", x.most(-1), 2);
        for (int one = 0; one < 5; one++) {
            CHECK.same("most(" + one + ")", x.most(one), due[one]);
        }
        x.bind(1, 3);
        CHECK.same("of those who aren't bound", x.most(-1), 1);
        CHECK.same("the first row", x.most(0), 2);
        CHECK.same("bound already", x.most(1), -1);
        CHECK.same("nobody is left", x.most(4), -1);
        SockFair y = CHECK.of("plain 0 0 1 0 0;".repeat(9));
        for (int one = 0; one < 8; one++) {
            CHECK.same("all alike", y.most(one), one ^ 1);
        }
        CHECK.same("the last one", y.most(8), -1);
        // A star: only one of the rays gets the middle one; the first row is that of 0.
        SockFair z = CHECK.of("plain 0 0 1 0 0;".repeat(3) + "heeled 0 0 1 0 0;alike plain=1;");
        CHECK.same("star", z.most(-1), 1);
        CHECK.same("star of 0", z.most(0), 3);
        CHECK.same("star of 1", z.most(1), -1);
        CHECK.same("star of 3", z.most(3), 0);
        for (int who : new int[] {-2, 5, Integer.MIN_VALUE, Integer.MAX_VALUE}) {
            CHECK.none("most", () -> x.most(who));
            CHECK.none("rests", () -> x.rests(who));
            CHECK.none("mates", () -> x.mates(who));
        }
        CHECK.none("mates of NONE", () -> x.mates(-1));
    }

    private static void best() {
        SockFair x = CHECK.of(Check.FIVE);
        CHECK.same("02 and 14 ahead of 01", x.best(), 16);
        x.dye(0, 2);
        // 01 gives 13, 02 9, 04 4.
        CHECK.same("02 and 14", x.best(), 15);
        x.bind(2, 3);
        CHECK.same("01 alone", x.best(), 13);
        // Not as many couples, but more alike: 12 gives 300, 01 and 23 1 each.
        SockFair y = CHECK.of("plain 0 0 1 0 0;plain 0 0 10 0 0;plain 0 0 11 0 0;plain 0 0 20 0 0;alike (sizes=9)+300*(sizes=1);");
        CHECK.same("the one in the middle", y.best(), 300);
        CHECK.same("as many", y.most(-1), 2);
        CHECK.same("beyond an int", CHECK.of("plain 0 0 1 0 0;".repeat(10) + "alike 2048*1024*1023;").best(),
            5L * 2048 * 1024 * 1023);
        CHECK.same("below 0 is none", CHECK.of("plain 0 0 1 0 0;".repeat(4) + "alike 2048*1024*1024;").best(), 0);
    }

    private static void rests() {
        CHECK.same("mates, asked first", CHECK.of(Check.FIVE).mates(0), 2);
        SockFair x = CHECK.of(Check.FIVE);
        CHECK.same("rests", x.rests(-1), 1);
        int[] due = {1, 0, -1, -1, -1};
        for (int one = 0; one < 5; one++) {
            CHECK.same("rests(" + one + ")", x.rests(one), due[one]);
            CHECK.same("mates(" + one + ")", x.mates(one), due[one] < 0 ? 0 : 1 << due[one]);
        }
        x.bind(0, 3);
        CHECK.same("rests", x.rests(1), 4);
        CHECK.same("bound already", x.rests(0), -1);
        CHECK.same("bound already", x.mates(0), 0);
        SockFair none = CHECK.of(ROUND);
        CHECK.same("none is at rest", none.rests(-1), 0);
        CHECK.same("there is none", none.rests(0), -1);
        CHECK.same("in none", none.mates(0), 0);
        // All like ones: whoever is bound stays, at most one is left over. Of 4: three ways.
        SockFair four = CHECK.of("plain 0 0 1 0 0;".repeat(4));
        CHECK.same("three ways", four.rests(-1), 3);
        CHECK.same("the first", four.rests(0), 1);
        CHECK.same("the first", four.rests(3), 2);
        CHECK.same("any", four.mates(2), 1 + 2 + 8);
        CHECK.same("of 10", CHECK.of("plain 0 0 1 0 0;".repeat(10)).rests(-1), 945);
        CHECK.same("of 9", CHECK.of("plain 0 0 1 0 0;".repeat(9)).rests(-1), 945);
        SockFair five = CHECK.of("plain 0 0 1 0 0;".repeat(5));
        CHECK.same("of 5", five.rests(-1), 15);
        CHECK.same("nobody behind all", five.rests(4), -1);
        CHECK.same("any of 5", five.mates(4), 15);
        // Two ways: 0 and 1 like 2 and 3 crosswise, who like them the other way round (charms 0, 1, 2, 3).
        SockFair cross = CHECK.of("plain 0 0 1 0 0;plain 0 0 1 0 1;heeled 0 0 1 0 2;heeled 0 0 1 0 3;alike plain=1;"
            + "likes 1+(own=0 and charm=2)+(own=1 and charm=3)+(own=2 and charm=1)+(own=3 and charm=0);");
        CHECK.same("cross", cross.rests(-1), 2);
        CHECK.same("the first of both", cross.rests(0), 2);
        CHECK.same("the first of both", cross.rests(1), 3);
        CHECK.same("in both", cross.mates(0), 4 + 8);
        CHECK.same("in both", cross.mates(3), 1 + 2);
        cross.bind(0, 2);
        CHECK.same("found anew when bound", cross.rests(-1), 1);
        cross.undo();
        CHECK.same("found anew when undone", cross.rests(-1), 2);
    }

    private static void ring() {
        SockFair x = CHECK.of(Check.FIVE);
        CHECK.same("two who have nobody", x.ring(), 2);
        x.hold(1);
        // 0 and 1 have whom they like most; the others would rather have them, not each other.
        CHECK.same("none", x.ring(), -1);
        CHECK.same("three", CHECK.of(ring("bound 0 3;bound 1 4;bound 2 5;")).ring(), 3);
        CHECK.same("two with one who is free", CHECK.of(ring("bound 0 3;bound 1 4;")).ring(), 2);
        CHECK.same("nobody may", CHECK.of(Check.FIVE + "alike 0;").ring(), -1);
        // Four in a ring, each liking the next of 0 to 3 alone, bound two by two crosswise.
        SockFair four = CHECK.of("plain 0 0 1 0 0;plain 0 0 1 0 1;plain 0 0 1 0 2;plain 0 0 1 0 3;bound 0 2;bound 1 3;"
            + "likes charm-own=1 or own-charm=3;");
        CHECK.same("four", four.ring(), 4);
        CHECK.same("all faithful", four.faithful(), 2);
    }

    private static void steps() {
        SockFair x = CHECK.of(Check.FIVE);
        CHECK.same("far", x.far(2, 4), 2);
        CHECK.same("far", x.far(0, 4), 1);
        CHECK.same("far", x.far(4, 0), 1);
        CHECK.same("far", x.far(3, 3), 0);
        CHECK.same("far", x.far(3, 0), -1);
        CHECK.same("circles", x.circles(), 2);
        StringBuilder chain = new StringBuilder("alike sizes=2;");
        for (int i = 0; i < 10; i++) {
            chain.append("plain 0 0 ").append(new int[] {1, 3, 5, 7, 9, 11, 13, 15, 17, 19}[i]).append(" 0 0;");
        }
        SockFair y = CHECK.of(chain.toString());
        CHECK.same("nine steps", y.far(0, 9), 9);
        CHECK.same("nine steps", y.far(9, 0), 9);
        CHECK.same("four steps", y.far(7, 3), 4);
        CHECK.same("one circle", y.circles(), 1);
        y.bind(4, 5);
        CHECK.same("whoever is bound", y.far(0, 9), 9);
        CHECK.same("each alone", CHECK.of(Check.FIVE + "alike 0;").circles(), 5);
        for (int who : new int[] {-1, 5}) {
            CHECK.none("far", () -> x.far(who, 0));
            CHECK.none("far", () -> x.far(0, who));
        }
    }

    private static void oneColour() {
        SockFair x = CHECK.of("plain 0 0 1 0 0;heeled 9 0 1 0 0;plain 9 0 9 0 0;heeled 0 0 9 0 0;");
        // In one colour 01 and 23 give 10.
        CHECK.same("colour", x.colour(0), 0);
        CHECK.same("couples", x.colour(1), 2);
        SockFair y = CHECK.of("plain 0 0 1 0 0;plain 9 0 1 0 0;plain 5 0 1 0 0;alike not colours;");
        CHECK.same("none now", y.most(-1), 0);
        CHECK.same("one then", y.colour(1), 1);
        CHECK.same("the least colour", y.colour(0), 0);
        CHECK.same("colours stay", y.person(1, 0), 9);
        y.bind(0, 1);
        CHECK.same("of those who aren't bound", y.colour(1), 0);
        SockFair z = CHECK.of("plain 0 0 1 0 0;plain 9 0 1 0 0;alike colours;");
        CHECK.same("one now", z.most(-1), 1);
        CHECK.same("none then", z.colour(1), 0);
        for (int what : new int[] {-1, 2, Integer.MIN_VALUE}) {
            CHECK.none("colour", () -> x.colour(what));
        }
    }

    private static void nobody() {
        SockFair x = new SockFair();
        CHECK.same("closest", x.closest(), -1);
        CHECK.same("lonely", x.lonely(), 0);
        CHECK.same("faithful", x.faithful(), 0);
        CHECK.same("most", x.most(-1), 0);
        CHECK.same("best", x.best(), 0);
        CHECK.same("rests", x.rests(-1), 1);
        CHECK.same("ring", x.ring(), -1);
        CHECK.same("circles", x.circles(), 0);
        CHECK.same("colour", x.colour(0), 0);
        CHECK.same("colour", x.colour(1), 0);
        CHECK.none("most of nobody", () -> x.most(0));
    }
}
