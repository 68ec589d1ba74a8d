/**
 * The boundary cases of promises 20 to 26, 35, 37, 38 and 40: closest, lonely, faithful, most, best, rests, mates, ring,
 * far, circles, colour.
 */
public final class EdgesOfCouplesTest {
    private static final Check CHECK = new Check();
    private static final String P = Check.P;
    private static final String LEAST = "2048*1024*1024";
    private static final String GREATEST = "(2048*1024*1024-1)";

    public static void main(String[] args) {
        closest();
        lonely();
        faithful();
        most();
        firstRow();
        best();
        rests();
        atRest();
        mates();
        ring();
        far();
        circles();
        colour();
        whoIsNone();
        thoughtsOnly();
        CHECK.namesPromises(20, 26);
        CHECK.namesPromises(35, 35);
        CHECK.namesPromises(37, 38);
        CHECK.namesPromises(40, 40);
        CHECK.end("EdgesOfCouplesTest");
    }

    /** So many, of sizes 1, 3, 5 ..: by 'sizes=2' each is near to the one ahead and the one behind alone. */
    private static String row(int many, String rule) {
        StringBuilder text = new StringBuilder();
        for (int i = 0; i < many; i++) {
            text.append("plain 0 0 ").append(1 + 2 * i).append(" 0 ").append(i).append(';');
        }
        return text + rule;
    }

    // ---- promises 20 to 22 ----

    private static void closest() {
        CHECK.promise(20, "10 by the lesser and the other one; NONE: none");
        CHECK.terms("none with fewer than two");
        CHECK.same("of nobody", new SockFair().closest(), -1);
        CHECK.same("of one", CHECK.of(P).closest(), -1);
        CHECK.same("of two", CHECK.of(P + P).closest(), 1);
        CHECK.terms("MAY it be bound or not (of like ones the first)");
        for (String given : new String[] {"0", "0-1", LEAST, GREATEST, "1"}) {
            CHECK.same("two by " + given, CHECK.of(P + P + "alike " + given + ";").closest(), 1);
            CHECK.same("ten by " + given, CHECK.of(P.repeat(10) + "alike " + given + ";").closest(), 1);
        }
        CHECK.same("0 is more than below it", CHECK.of("heeled 0 0 1 0 0;" + P + P + "alike plain-2;").closest(), 12);
        CHECK.same("the least but for one couple", CHECK.of("heeled 0 0 1 0 0;" + P + P + "alike " + LEAST + "+(plain=2);").closest(), 12);
        CHECK.same("the last couple", CHECK.of(P.repeat(8) + "heeled 0 0 1 0 0;heeled 0 0 1 0 0;alike not plain;").closest(), 89);
        CHECK.same("0 and the last one", CHECK.of("heeled 0 0 1 0 0;" + P.repeat(8) + "heeled 0 0 1 0 0;alike not plain;").closest(), 9);
        CHECK.same("like ones by the lesser one", CHECK.of(row(4, "alike sizes=2;")).closest(), 1);
        CHECK.same("like ones by the other one", CHECK.of(row(5, "alike sizes=4;")).closest(), 2);
        CHECK.terms("THE CLOSEST: the couple (whoever is bound)");
        CHECK.same("bound to others", CHECK.of(P + P + "heeled 9 0 30 0 0;heeled 0 0 15 0 0;bound 0 2;bound 1 3;").closest(), 1);
    }

    private static void lonely() {
        CHECK.promise(21, "LONELY, as bits");
        CHECK.terms("LONELY: to whom nobody MAY be bound");
        CHECK.same("of nobody", new SockFair().lonely(), 0);
        CHECK.same("of one", CHECK.of(P).lonely(), 1);
        CHECK.same("of two by 1", CHECK.of(P + P + "alike 1;").lonely(), 0);
        CHECK.same("of two by 0", CHECK.of(P + P + "alike 0;").lonely(), 3);
        CHECK.same("of ten by -1", CHECK.of(P.repeat(10) + "alike 0-1;").lonely(), 1023);
        CHECK.same("of ten by 1", CHECK.of(P.repeat(10) + "alike 1;").lonely(), 0);
        CHECK.same("the last one", CHECK.of(P.repeat(9) + "heeled 0 0 1 0 0;alike pattern;").lonely(), 512);
        CHECK.same("bound by hand all the same", CHECK.of(P + P + "bound 0 1;alike 0;").lonely(), 3);
    }

    private static void faithful() {
        CHECK.promise(22, "FAITHFUL: how many couples");
        CHECK.terms("of whom neither would RATHER have anybody who would RATHER have that one, too");
        CHECK.same("of nobody", new SockFair().faithful(), 0);
        CHECK.same("none bound", CHECK.of(P.repeat(10)).faithful(), 0);
        CHECK.same("five", CHECK.of(P.repeat(10) + "bound 0 1;bound 2 3;bound 4 5;bound 6 7;bound 8 9;").faithful(), 5);
        CHECK.same("who may not", CHECK.of(P + P + "bound 0 1;alike 0;").faithful(), 1);
        // 2 is free and would rather have any; 0 likes 2 more, as much, less than 1.
        String three = "plain 0 0 1 0 0;plain 0 0 1 0 5;plain 0 0 1 0 ";
        CHECK.same("more", CHECK.of(three + "6;bound 0 1;likes charm;").faithful(), 0);
        CHECK.same("as much", CHECK.of(three + "5;bound 0 1;likes charm*(own=0);").faithful(), 1);
        CHECK.same("less", CHECK.of(three + "4;bound 0 1;likes charm*(own=0);").faithful(), 1);
        // Who tempts is the first one, or the last one, of all.
        CHECK.same("by 0", CHECK.of("plain 0 0 1 0 9;plain 0 0 1 0 5;plain 0 0 1 0 5;bound 1 2;likes charm;").faithful(), 0);
        CHECK.same("by 9", CHECK.of("plain 0 0 1 0 5;".repeat(9) + "plain 0 0 1 0 9;bound 0 1;likes charm;").faithful(), 0);
        // The other one of both is tempted: charms 0 and 5, 1 likes 2 more than 0.
        CHECK.same("the second one", CHECK.of(three + "4;bound 0 1;likes charm*(own=5);").faithful(), 0);
        // 0 and 1 would rather have 2, who likes 3 as much as 1, or less.
        String four = "plain 0 0 1 0 0;plain 0 0 1 0 1;plain 0 0 1 0 9;plain 0 0 1 0 ";
        CHECK.same("2 wouldn't", CHECK.of(four + "1;bound 0 1;bound 2 3;likes charm;").faithful(), 2);
        CHECK.same("2 would", CHECK.of(four + "0;bound 0 1;bound 2 3;likes charm;").faithful(), 0);
    }

    // ---- promise 23 ----

    private static void most() {
        CHECK.promise(23, "AS MANY: how many couples (person NONE), with whom one is (NONE: nobody)");
        CHECK.same("of nobody", new SockFair().most(-1), 0);
        for (int many = 1; many <= 10; many++) {
            SockFair x = CHECK.of(P.repeat(many));
            CHECK.same("of " + many, x.most(-1), many / 2);
            CHECK.same("the last of " + many, x.most(many - 1), many % 2 == 1 ? -1 : many - 2);
            CHECK.same("the first of " + many, x.most(0), many == 1 ? -1 : 1);
            SockFair y = CHECK.of(P.repeat(many) + "alike 0;");
            CHECK.same("none MAY, of " + many, y.most(-1), 0);
            CHECK.same("nobody", y.most(many - 1), -1);
        }
        CHECK.terms("AS MANY couples as could be, of those who aren't bound and MAY be");
        SockFair x = CHECK.of(P.repeat(4) + "bound 0 1;");
        CHECK.same("those who are bound are none of it", x.most(-1), 1);
        CHECK.same("bound", x.most(0), -1);
        CHECK.same("not bound", x.most(2), 3);
        SockFair all = CHECK.of(P.repeat(4) + "bound 0 1;bound 2 3;");
        CHECK.same("all are bound", all.most(-1), 0);
        CHECK.same("nobody", all.most(3), -1);
        // Most alike first would leave 0 and 3 alone.
        SockFair y = CHECK.of(row(4, "alike (sizes=2)*(10-worn);"));
        CHECK.same("a row of four", y.most(-1), 2);
        CHECK.same("with 1", y.most(0), 1);
        CHECK.same("with 3", y.most(2), 3);
    }

    private static void firstRow() {
        CHECK.terms("of like ones the first row (by PEOPLE: with whom; nobody behind all)");
        // A row of five: one is left; it is the last one by the first row.
        int[] five = {1, 0, 3, 2, -1};
        SockFair x = CHECK.of(row(5, "alike sizes=2;"));
        for (int one = 0; one < five.length; one++) {
            CHECK.same("most(" + one + ") of a row of five", x.most(one), five[one]);
        }
        // 0 may have 2 or 3; 1 only 2: both couples need 03 and 12.
        SockFair y = CHECK.of("plain 5 0 1 0 0;plain 1 0 1 0 0;plain 3 0 1 0 0;plain 7 0 1 0 0;alike colours=2;");
        int[] both = {3, 2, 1, 0};
        for (int one = 0; one < both.length; one++) {
            CHECK.same("most(" + one + ") of two couples", y.most(one), both[one]);
        }
        // One couple: 0 with the lesser one, or nobody behind all.
        SockFair z = CHECK.of("plain 5 0 1 0 0;plain 5 0 1 0 0;plain 3 0 1 0 0;plain 3 0 1 0 0;plain 3 0 1 0 0;bound 3 4;alike colours=2;");
        int[] one = {2, -1, 0, -1, -1};
        for (int i = 0; i < one.length; i++) {
            CHECK.same("most(" + i + ") of one couple", z.most(i), one[i]);
        }
        // 0 with nobody, as 1 and 2 are the only ones that MAY.
        SockFair w = CHECK.of("heeled 0 0 1 0 0;" + P + P + "alike plain=2;");
        CHECK.same("nobody for 0", w.most(0), -1);
        CHECK.same("2 for 1", w.most(1), 2);
    }

    // ---- promise 24 ----

    private static void best() {
        CHECK.promise(24, "MOST ALIKE: how much");
        CHECK.same("of nobody", new SockFair().best(), 0);
        CHECK.same("of one", CHECK.of(P).best(), 0);
        CHECK.same("of two by 0", CHECK.of(P + P + "alike 0;").best(), 0);
        CHECK.same("of two by -1", CHECK.of(P + P + "alike 0-1;").best(), 0);
        CHECK.same("of two by 1", CHECK.of(P + P + "alike 1;").best(), 1);
        CHECK.same("of two by the greatest", CHECK.of(P + P + "alike " + GREATEST + ";").best(), Integer.MAX_VALUE);
        CHECK.same("of ten by the greatest", CHECK.of(P.repeat(10) + "alike " + GREATEST + ";").best(), 5L * Integer.MAX_VALUE);
        CHECK.same("of ten by the least", CHECK.of(P.repeat(10) + "alike " + LEAST + ";").best(), 0);
        CHECK.same("all are bound", CHECK.of(P + P + "bound 0 1;").best(), 0);
        CHECK.same("one is bound to one", CHECK.of(P.repeat(4) + "bound 1 2;").best(), 15);
        CHECK.terms("that in which all couples together are most ALIKE");
        // 01 and 23 by 2 each; 12 by 3, or 5.
        String four = "plain 0 0 1 0 0;plain 2 0 2 0 0;plain 0 0 3 0 0;plain 2 0 4 0 0;";
        CHECK.same("two together", CHECK.of(four + "alike 2*(sizes=1);").best(), 4);
        CHECK.same("3 is less", CHECK.of(row(4, "alike 2*(sizes=2);")).best(), 4);
        CHECK.same("5 alone", CHECK.of("striped 0 0 1 0 0;plain 0 0 3 0 0;plain 0 0 5 0 0;heeled 0 0 7 0 0;alike (sizes=2)*(2+3*pattern);").best(), 5);
        CHECK.same("not all of whom MAY", CHECK.of(P + P + "heeled 0 0 1 0 0;alike 1+8*pattern;").best(), 9);
    }

    // ---- promises 25 and 26 ----

    private static void rests() {
        CHECK.promise(25, "AT REST: how many (person NONE), with whom one is in the first (NONE: nobody, there is none)");
        CHECK.same("of nobody", new SockFair().rests(-1), 1);
        int[] ways = {1, 1, 3, 3, 15, 15, 105, 105, 945, 945};
        for (int many = 1; many <= 10; many++) {
            SockFair x = CHECK.of(P.repeat(many));
            CHECK.same("of " + many + " like ones", x.rests(-1), ways[many - 1]);
            CHECK.same("the first of " + many, x.rests(0), many == 1 ? -1 : 1);
            CHECK.same("the last of " + many, x.rests(many - 1), many % 2 == 1 ? -1 : many - 2);
        }
        SockFair none = CHECK.of(P.repeat(10) + "alike 0;");
        CHECK.same("nobody MAY: one way", none.rests(-1), 1);
        CHECK.same("nobody", none.rests(9), -1);
        SockFair all = CHECK.of(P + P + "bound 0 1;");
        CHECK.same("all are bound: one way", all.rests(-1), 1);
        CHECK.same("nobody in it", all.rests(0), -1);
        // Each likes the next one most, of three: none is at rest; with a fourth who may not be, neither.
        String three = "plain 0 0 1 0 0;plain 0 0 1 0 1;plain 0 0 1 0 2;";
        String likes = "likes (charm-own=1 or own-charm=2)*5+1;";
        SockFair round = CHECK.of(three + likes);
        CHECK.same("none at rest", round.rests(-1), 0);
        for (int one = 0; one < 3; one++) {
            CHECK.same("there is none", round.rests(one), -1);
            CHECK.same("in none", round.mates(one), 0);
        }
        round.bind(0, 1);
        CHECK.same("one is left", round.rests(-1), 1);
    }

    private static void atRest() {
        CHECK.terms("both LIKE each other more than whom they have (who has nobody likes anybody more whom one MAY)");
        // Likings below 0: who has nobody likes anybody more all the same.
        SockFair below = CHECK.of(P + P + "likes 0-9;");
        CHECK.same("one way", below.rests(-1), 1);
        CHECK.same("bound", below.rests(0), 1);
        // As much isn't more: 0 and 1 like all as much, three ways for four.
        SockFair same = CHECK.of(P.repeat(4) + "likes 0;");
        CHECK.same("as much", same.rests(-1), 3);
        // All like 3 more, who likes all as much: whoever has 3 keeps 3.
        SockFair last = CHECK.of(P + P + P + "plain 0 0 1 0 1;likes charm;");
        CHECK.same("one likes more, the other as much", last.rests(-1), 3);
        // 2 likes 3 more, and 3 2: then they are with each other in any.
        SockFair both = CHECK.of(P + P + "plain 0 0 1 0 1;plain 0 0 1 0 1;likes charm*own;");
        CHECK.same("both like more", both.rests(-1), 1);
        CHECK.same("2 with 3", both.rests(2), 3);
        CHECK.same("0 with 1", both.rests(0), 1);
        CHECK.terms("so that no two of them who MAY be, and aren't bound to each other in this");
        // 0 and 1 like each other most by far, but MAY not: with nobody both are at rest.
        SockFair not = CHECK.of(P + P + "alike 0;likes 99;");
        CHECK.same("one way", not.rests(-1), 1);
        CHECK.same("nobody", not.rests(0), -1);
        CHECK.terms("ways in which some of those who aren't bound, and MAY be, are bound");
        // 3 is bound by hand to 2: what 0 and 1 would rather have is none of it.
        SockFair taken = CHECK.of(P + P + "plain 0 0 1 0 9;plain 0 0 1 0 9;bound 2 3;");
        CHECK.same("one way", taken.rests(-1), 1);
        CHECK.same("0 with 1", taken.rests(0), 1);
        CHECK.same("2 with nobody", taken.rests(2), -1);
        CHECK.terms("the first (by PEOPLE: with whom; nobody behind all)");
        // Two ways: 02 13 and 03 12; the first is that in which 0 has 2.
        SockFair cross = CHECK.of("plain 0 0 1 0 0;plain 0 0 1 0 1;heeled 0 0 1 0 2;heeled 0 0 1 0 3;alike plain=1;"
            + "likes 1+(own=0 and charm=3)+(own=1 and charm=2)+(own=2 and charm=0)+(own=3 and charm=1);");
        int[] first = {2, 3, 0, 1};
        for (int one = 0; one < first.length; one++) {
            CHECK.same("the first, of " + one, cross.rests(one), first[one]);
        }
        CHECK.same("two ways", cross.rests(-1), 2);
    }

    private static void mates() {
        CHECK.promise(26, "AT REST: with whom one is in any, as bits");
        SockFair ten = CHECK.of(P.repeat(10));
        for (int one = 0; one < 10; one++) {
            CHECK.same("all but oneself", ten.mates(one), 1023 - (1 << one));
        }
        SockFair two = CHECK.of(P + P + "heeled 9 0 30 0 0;");
        CHECK.same("the other one", two.mates(0), 2);
        CHECK.same("nobody", two.mates(2), 0);
        CHECK.same("bound", CHECK.of(P.repeat(4) + "bound 0 1;").mates(0), 0);
        CHECK.same("not bound", CHECK.of(P.repeat(4) + "bound 0 1;").mates(2), 8);
        CHECK.none("mates(-1) of ten", () -> ten.mates(-1));
        CHECK.none("mates(10) of ten", () -> ten.mates(10));
    }

    // ---- promises 35, 37, 38 ----

    private static void ring() {
        CHECK.promise(35, "A RING; NONE: none");
        CHECK.terms("how many (2 at least); none");
        CHECK.same("of nobody", new SockFair().ring(), -1);
        CHECK.same("of one", CHECK.of(P).ring(), -1);
        CHECK.same("of two", CHECK.of(P + P).ring(), 2);
        CHECK.same("of two by 0", CHECK.of(P + P + "alike 0;").ring(), -1);
        CHECK.same("of two who are bound", CHECK.of(P + P + "bound 0 1;").ring(), -1);
        // So many in a round, each bound to the one across and liking the next one alone more.
        for (int many = 4; many <= 10; many += 2) {
            StringBuilder text = new StringBuilder();
            for (int i = 0; i < many; i++) {
                text.append("plain 0 0 1 0 ").append(i).append(';');
            }
            for (int i = 0; i < many / 2; i++) {
                text.append("bound ").append(i).append(' ').append(i + many / 2).append(';');
            }
            String likes = "likes charm-own=1 or own-charm=" + (many - 1) + ";";
            CHECK.same("all of " + many, CHECK.of(text + likes).ring(), many);
            // Without the last step there is none.
            CHECK.same("open, of " + many, CHECK.of(text + "likes charm-own=1;").ring(), -1);
            // Back from 2 to 0, who is across if they are four: a shorter one, or none.
            CHECK.same("three of " + many, CHECK.of(text + "likes charm-own=1 or own-charm=2 and charm<1;").ring(), many == 4 ? -1 : 3);
        }
        SockFair x = CHECK.of(P + P + "bound 0 1;");
        x.unravel(0);
        CHECK.same("free again", x.ring(), 2);
        CHECK.terms("A RING: the fewest PEOPLE of whom each would RATHER have the next one, the last one the first one");
        // Two rings apart: three by charms 1, 2, 3, whose mates are 9; two by charms 11, 12, whose mates are 19.
        String[] apart = {"plain 0 0 1 0 1;plain 0 0 1 0 2;plain 0 0 1 0 3;", "plain 0 0 1 0 11;plain 0 0 1 0 12;"};
        String others = "plain 0 0 1 0 20;".repeat(5) + "bound 0 5;bound 1 6;bound 2 7;bound 3 8;bound 4 9;"
            + "likes charm-own=1 or own=3 and charm=1 or own=12 and charm=11;";
        CHECK.same("three, then two", CHECK.of(apart[0] + apart[1] + others).ring(), 2);
        CHECK.same("two, then three", CHECK.of(apart[1] + apart[0] + others).ring(), 2);
    }

    private static void far() {
        CHECK.promise(37, "FAR (0 of oneself); NONE: none");
        SockFair x = CHECK.of(row(10, "alike sizes=2;"));
        for (int one = 0; one < 10; one++) {
            for (int other = 0; other < 10; other++) {
                CHECK.same("far(" + one + ", " + other + ")", x.far(one, other), Math.abs(one - other));
            }
        }
        SockFair y = CHECK.of(P + P + "alike 0;");
        CHECK.same("of oneself, whoever MAY", y.far(1, 1), 0);
        CHECK.same("none", y.far(0, 1), -1);
        CHECK.same("alone", CHECK.of(P).far(0, 0), 0);
        CHECK.same("in another part", CHECK.of(row(10, "alike sizes=4;")).far(0, 9), -1);
        CHECK.terms("each to somebody to whom one MAY be bound (whoever is bound)");
        SockFair bound = CHECK.of(row(4, "alike sizes=2;bound 0 3;bound 1 2;"));
        CHECK.same("not along who is bound", bound.far(0, 3), 3);
        CHECK.same("not hindered by who is bound", bound.far(1, 2), 1);
    }

    private static void circles() {
        CHECK.promise(38, "CIRCLES: how many");
        CHECK.same("of nobody", new SockFair().circles(), 0);
        CHECK.same("of one", CHECK.of(P).circles(), 1);
        CHECK.same("of two by 1", CHECK.of(P + P + "alike 1;").circles(), 1);
        CHECK.same("of two by 0", CHECK.of(P + P + "alike 0;").circles(), 2);
        CHECK.same("of ten by 0", CHECK.of(P.repeat(10) + "alike 0;").circles(), 10);
        CHECK.same("of ten in a row", CHECK.of(row(10, "alike sizes=2;")).circles(), 1);
        CHECK.same("of ten, every other one", CHECK.of(row(10, "alike sizes=4;")).circles(), 2);
        CHECK.same("bound isn't alike", CHECK.of(P + P + "bound 0 1;alike 0;").circles(), 2);
        CHECK.same("two and two and one", CHECK.of(P + "heeled 0 0 1 0 0;" + P + "heeled 0 0 1 0 0;argyle 0 0 1 0 0;alike pattern;").circles(), 3);
    }

    // ---- promise 40 ----

    private static void colour() {
        CHECK.promise(40, "ONE COLOUR (what 0), how many couples (1)");
        CHECK.terms("AS MANY couples as told above would be most (of like ones the least): how many");
        SockFair ten = CHECK.of(P.repeat(5) + "plain 9 0 1 0 0;".repeat(5) + "alike not colours;");
        CHECK.same("four as they are", ten.most(-1), 4);
        CHECK.same("five in one", ten.colour(1), 5);
        CHECK.same("the least", ten.colour(0), 0);
        SockFair unlike = CHECK.of("plain 5 0 1 0 0;plain 6 0 1 0 0;alike colours;");
        CHECK.same("none in one", unlike.colour(1), 0);
        CHECK.same("of like ones the least", unlike.colour(0), 0);
        SockFair bound = CHECK.of("plain 5 0 1 0 0;plain 6 0 1 0 0;bound 0 1;");
        CHECK.same("of those who aren't bound", bound.colour(1), 0);
        SockFair one = CHECK.of(P);
        CHECK.same("of one", one.colour(1), 0);
        SockFair two = CHECK.of(P + "plain 9 0 1 0 0;");
        CHECK.same("one couple, however alike", two.colour(1), 1);
        CHECK.same("the COLOURS stay", two.person(1, 0), 9);
        CHECK.same("of nobody", new SockFair().colour(1), 0);
        CHECK.same("of nobody", new SockFair().colour(0), 0);
        CHECK.promise(40, "NoSuchElementException: another what");
        for (int what : new int[] {-1, 2, Integer.MIN_VALUE, Integer.MAX_VALUE}) {
            CHECK.none("colour(" + what + ")", () -> ten.colour(what));
            CHECK.none("colour(" + what + ") of nobody", () -> new SockFair().colour(what));
        }
    }

    private static void whoIsNone() {
        CHECK.promise(23, "NoSuchElementException: no such PERSON");
        SockFair x = CHECK.of(P + P);
        for (int who : new int[] {-2, 2, 10, Integer.MIN_VALUE, Integer.MAX_VALUE}) {
            CHECK.none("most(" + who + ")", () -> x.most(who));
            CHECK.none("most(" + who + ") of nobody", () -> new SockFair().most(who));
            Twins.stays(CHECK, "most(" + who + ")", y -> y.most(who == 2 ? 4 : who), Twins.NO_STATUS);
        }
        CHECK.promise(25, "NoSuchElementException: no such PERSON");
        for (int who : new int[] {-2, 2, 10, Integer.MIN_VALUE, Integer.MAX_VALUE}) {
            CHECK.none("rests(" + who + ")", () -> x.rests(who));
            CHECK.none("rests(" + who + ") of nobody", () -> new SockFair().rests(who));
        }
        CHECK.same("most(1)", x.most(1), 0);
        CHECK.same("rests(1)", x.rests(1), 0);
    }

    private static void thoughtsOnly() {
        CHECK.promise(23, "AS MANY");
        Twins.stays(CHECK, "what only asks", x -> {
            x.closest();
            x.lonely();
            x.faithful();
            x.most(-1);
            x.most(0);
            x.best();
            x.rests(-1);
            x.mates(1);
            x.ring();
            x.far(0, 3);
            x.circles();
            x.colour(0);
            x.colour(1);
        }, Twins.NO_STATUS);
    }
}
