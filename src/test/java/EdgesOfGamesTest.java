/** The boundary cases of promises 33, 34 and 36: basket, game, generations. */
public final class EdgesOfGamesTest {
    private static final Check CHECK = new Check();
    private static final String P = Check.P;
    private static final int[] NO_WHATS_OF_THREE = {-1, 3, Integer.MIN_VALUE, Integer.MAX_VALUE};

    public static void main(String[] args) {
        baskets();
        noBaskets();
        games();
        hiding();
        noGames();
        generations();
        noGenerations();
        draws();
        dogs();
        rivers();
        newSocks();
        wornAtFairs();
        withoutPeople();
        thoughtsOnly();
        CHECK.namesPromises(33, 34);
        CHECK.namesPromises(36, 36);
        CHECK.end("EdgesOfGamesTest");
    }

    // ---- promise 33 ----

    private static void baskets() {
        CHECK.promise(33, "THE BASKET: how many it lets go by (what 0), the upper part (1), the lower one (2)");
        CHECK.terms("so many SOCKS (1 to 9) come out one by one");
        SockFair x = new SockFair();
        for (int socks = 1; socks <= 9; socks++) {
            int[] due = basketByAllOrders(socks);
            for (int what = 0; what <= 2; what++) {
                CHECK.same("basket(" + socks + ", " + what + ")", x.basket(socks, what), due[what]);
            }
        }
        CHECK.terms("takes the next one that is better than all of these (the last one, if there is none)");
        // Of one, that one is the last one, too; of two it can't be lost by what was seen.
        CHECK.same("basket(1, 1)", x.basket(1, 1), 1);
        CHECK.same("basket(2, 1)", x.basket(2, 1), 1);
        CHECK.same("basket(2, 2)", x.basket(2, 2), 2);
        CHECK.terms("how many it lets go by (of like ones the fewest)");
        // Of two, the first or the last one is the best as likely.
        CHECK.same("basket(2, 0)", x.basket(2, 0), 0);
        CHECK.same("basket(1, 0)", x.basket(1, 0), 0);
        CHECK.terms("the upper part, the lower one, in lowest terms");
        CHECK.same("1 of 1", x.basket(1, 1) * 100 + x.basket(1, 2), 101);
        CHECK.same("1 of 2, not 3 of 6", x.basket(3, 1) * 100 + x.basket(3, 2), 102);
    }

    /** How many it lets go by, and how likely it gets the best one, by all orders. */
    private static int[] basketByAllOrders(int socks) {
        int[] good = new int[socks];
        int all = ordersFrom(new int[socks], 0, 0, good);
        int best = 0;
        for (int goBy = 1; goBy < socks; goBy++) {
            best = good[goBy] > good[best] ? goBy : best;
        }
        int common = java.math.BigInteger.valueOf(good[best]).gcd(java.math.BigInteger.valueOf(all)).intValue();
        return new int[] {best, good[best] / common, all / common};
    }

    private static int ordersFrom(int[] order, int at, int used, int[] good) {
        if (at == order.length) {
            for (int goBy = 0; goBy < order.length; goBy++) {
                good[goBy] += taken(order, goBy) == order.length - 1 ? 1 : 0;
            }
            return 1;
        }
        int all = 0;
        for (int sock = 0; sock < order.length; sock++) {
            if ((used >> sock & 1) == 0) {
                order[at] = sock;
                all += ordersFrom(order, at + 1, used | 1 << sock, good);
            }
        }
        return all;
    }

    private static int taken(int[] order, int goBy) {
        int best = -1;
        for (int at = 0; at < goBy; at++) {
            best = Math.max(best, order[at]);
        }
        for (int at = goBy; at < order.length; at++) {
            if (order[at] > best) {
                return order[at];
            }
        }
        return order[order.length - 1];
    }

    private static void noBaskets() {
        CHECK.promise(33, "NoSuchElementException: another what. IllegalArgumentException (behind that): not 1 to 9");
        SockFair x = new SockFair();
        for (int what : NO_WHATS_OF_THREE) {
            for (int socks : new int[] {1, 9, 0, 10, -1, Integer.MIN_VALUE, Integer.MAX_VALUE}) {
                CHECK.none("basket(" + socks + ", " + what + ")", () -> x.basket(socks, what));
            }
        }
        for (int socks : new int[] {0, -1, 10, 11, Integer.MIN_VALUE, Integer.MAX_VALUE}) {
            for (int what = 0; what <= 2; what++) {
                int asked = what;
                CHECK.illegal("basket(" + socks + ", " + what + ")", () -> x.basket(socks, asked));
            }
            Twins.stays(CHECK, "basket(" + socks + ", 0)", y -> y.basket(socks, 0), Twins.NO_STATUS);
        }
    }

    // ---- promise 34 ----

    private static void game(String when, String text, int many, int first) {
        SockFair x = CHECK.of(text);
        CHECK.same(when + ": game(0, 1, 0)", x.game(0, 1, 0), many);
        CHECK.same(when + ": game(0, 1, 1)", x.game(0, 1, 1), first);
        // The other one first: as many, and as told from there if there is but one.
        CHECK.same(when + ": game(1, 0, 0)", x.game(1, 0, 0), many);
        if (many == 1) {
            CHECK.same(when + ": game(1, 0, 1)", x.game(1, 0, 1), first % 10 * 10 + first / 10);
        }
    }

    private static String two(int holes, int others, String rule) {
        return "plain 0 0 1 " + holes + " 0;plain 0 0 1 " + others + " 0;" + rule;
    }

    private static void games() {
        CHECK.promise(34, "A GAME: how many couples rest (what 0), the first (1; NONE: none)");
        // Hiding costs 1 and brings nothing: both show.
        game("no holes", two(0, 0, ""), 1, 0);
        game("never alike", two(9, 9, "alike 0-5;"), 1, 0);
        game("always as alike", two(9, 9, "alike 5;"), 1, 0);
        CHECK.terms("a couple RESTS, if neither gains more by the other choice");
        // As much isn't more: one hole less brings 1 and costs 1.
        game("as much", two(1, 0, ""), 2, 0);
        game("one more", two(2, 0, ""), 1, 10);
        game("both hide or both show", two(3, 3, ""), 2, 0);
        // Both gain the same ALIKE, so that there is always one that rests: by all four that ALIKE may give as shown.
        for (int given = 0; given < 81; given++) {
            int[][] alike = {{given % 3, given / 3 % 3}, {given / 9 % 3, given / 27}};
            SockFair x = CHECK.of(two(1, 3, "alike (worn=4)*" + alike[0][0] + "+(worn=1)*" + alike[0][1]
                + "+(worn=3)*" + alike[1][0] + "+(worn=0)*" + alike[1][1] + ";"));
            CHECK.same("how many by " + given, x.game(0, 1, 0), restsByHand(alike, 1, 3));
        }
        CHECK.terms("how many; the first (10 by the first one's and the other one's)");
        game("the other one hides", two(0, 4, "alike 9-worn;"), 1, 1);
        game("the first one hides", two(4, 0, "alike 9-worn;"), 1, 10);
        game("both hide", two(4, 4, "alike 20-2*worn;"), 1, 11);
        game("all four", two(1, 1, "alike 3-worn;"), 4, 0);
    }

    /** How many rest, by what ALIKE gives as shown, [first one's choice][other one's choice]. */
    private static int restsByHand(int[][] alike, int holes, int others) {
        int rests = 0;
        for (int a = 0; a < 2; a++) {
            for (int b = 0; b < 2; b++) {
                int one = alike[a][b] - b * (others / 2) - a;
                int oneElse = alike[1 - a][b] - b * (others / 2) - (1 - a);
                int two = alike[a][b] - a * (holes / 2) - b;
                int twoElse = alike[a][1 - b] - a * (holes / 2) - (1 - b);
                rests += oneElse <= one && twoElse <= two ? 1 : 0;
            }
        }
        return rests;
    }

    private static void hiding() {
        CHECK.terms("each shows his SOCK as it is, or as if it had none (0, 1)");
        game("as it is: 18 together", two(9, 9, "alike 9*(worn=18);"), 1, 0);
        game("as if 0 had none: 9 together", two(9, 0, "alike 9*(worn=0);"), 1, 10);
        CHECK.terms("each gains ALIKE of both (as they are shown), if that is more than 0");
        // By hiding ALIKE goes from -3 to 0, 1, 2: only 2 less 1 is more than 0.
        game("to 0", two(3, 0, "alike 0-worn;"), 1, 0);
        game("to 1", two(3, 0, "alike 1-worn;"), 2, 0);
        game("to 2", two(3, 0, "alike 2-worn;"), 1, 10);
        game("from far below 0", two(9, 0, "alike 2-9*worn;"), 1, 10);
        game("the greatest", two(9, 9, "alike 2048*1024*1024-1;"), 1, 0);
        game("the least", two(9, 9, "alike 2048*1024*1024;"), 1, 0);
        game("the greatest by hiding", two(9, 0, "alike (worn=0)*(2048*1024*1024-1);"), 1, 10);
        CHECK.terms("loses half of the HOLES that the other one hides, cut down, and 1 for hiding");
        // What the other one hides is lost whatever one chooses oneself: it never changes a choice.
        for (int holes = 0; holes <= 9; holes++) {
            game("1 shows, 0 hides " + holes, two(holes, 0, "alike 20-2*worn;"), 1, holes > 0 ? 10 : 0);
        }
    }

    private static void noGames() {
        CHECK.promise(34, "NoSuchElementException: also another what. IllegalArgumentException (behind that): both are one");
        SockFair x = CHECK.of(P + P);
        for (int what : new int[] {-1, 2, Integer.MIN_VALUE, Integer.MAX_VALUE}) {
            CHECK.none("game(0, 1, " + what + ")", () -> x.game(0, 1, what));
            CHECK.none("game(0, 0, " + what + ")", () -> x.game(0, 0, what));
            CHECK.none("game(2, 2, " + what + ")", () -> x.game(2, 2, what));
            Twins.stays(CHECK, "game(0, 1, " + what + ")", y -> y.game(0, 1, what), Twins.NO_STATUS);
        }
        for (int what = 0; what <= 1; what++) {
            int asked = what;
            CHECK.illegal("game(0, 0, " + what + ")", () -> x.game(0, 0, asked));
            CHECK.illegal("game(1, 1, " + what + ")", () -> x.game(1, 1, asked));
            CHECK.none("game(2, 2, " + what + ")", () -> x.game(2, 2, asked));
            CHECK.none("game(-1, -1, " + what + ")", () -> x.game(-1, -1, asked));
            Twins.stays(CHECK, "game(1, 1, " + what + ")", y -> y.game(1, 1, asked), Twins.NO_STATUS);
        }
        CHECK.illegal("bound or not", () -> CHECK.of(P + P + "bound 0 1;").game(0, 0, 0));
        CHECK.same("bound to each other", CHECK.of(two(2, 0, "bound 0 1;")).game(0, 1, 1), 10);
    }

    // ---- promise 36 ----

    private static void ages(String when, SockFair x, int seed, int n, int... due) {
        for (int what = 0; what <= 2; what++) {
            CHECK.same(when + ": generations(" + seed + ", " + n + ", " + what + ")", x.generations(seed, n, what), due[what]);
        }
    }

    private static void generations() {
        CHECK.promise(36, "GENERATIONS: bound (what 0), couples (1), HOLES (2)");
        CHECK.terms("GENERATIONS by a seed: n FAIRS (0 to 60)");
        SockFair x = CHECK.of("plain 0 0 1 3 0;plain 0 0 1 4 0;" + P + "bound 0 1;");
        for (int seed : new int[] {0, 1, -1, Integer.MIN_VALUE, Integer.MAX_VALUE}) {
            ages("none are held", x, seed, 0, 2, 0, 7);
        }
        CHECK.terms("how many are bound at the end");
        SockFair ten = CHECK.of(P.repeat(10) + "bound 0 9;bound 1 8;bound 2 7;bound 3 6;bound 4 5;");
        ages("all ten", ten, 1, 0, 10, 0, 0);
        // Nobody MAY, and a new SOCK is the only way to fewer HOLES.
        SockFair one = CHECK.of("plain 0 0 1 9 0;");
        int[] chance = {12345};
        int holes = 9;
        for (int n = 0; n <= 60; n++) {
            ages("one alone", one, 12345, n, 0, 0, holes);
            draw(chance, 1);
            int what = draw(chance, 4);
            if (what == 0) {
                holes = Math.min(9, holes + 3);
            } else if (what == 2) {
                draw(chance, 10);
                holes = 0;
            }
            holes = Math.min(9, holes + 1);
        }
    }

    private static int draw(int[] chance, int n) {
        chance[0] = (int) (chance[0] * 1103515245L + 12345L);
        return (int) ((chance[0] & 0x7fff0000L) / 65536L) % n;
    }

    private static void noGenerations() {
        CHECK.promise(36, "NoSuchElementException: another what. IllegalArgumentException (behind that): n");
        SockFair x = CHECK.of(P + P);
        for (int what : NO_WHATS_OF_THREE) {
            for (int n : new int[] {0, 60, -1, 61}) {
                CHECK.none("generations(1, " + n + ", " + what + ")", () -> x.generations(1, n, what));
                CHECK.none("of nobody", () -> new SockFair().generations(1, n, what));
            }
        }
        for (int n : new int[] {-1, 61, Integer.MIN_VALUE, Integer.MAX_VALUE}) {
            for (int what = 0; what <= 2; what++) {
                int asked = what;
                CHECK.illegal("generations(1, " + n + ", " + what + ")", () -> x.generations(1, n, asked));
                CHECK.illegal("of nobody", () -> new SockFair().generations(1, n, asked));
            }
            Twins.stays(CHECK, "generations(1, " + n + ", 0)", y -> y.generations(1, n, 0), Twins.NO_STATUS);
        }
        CHECK.same("60 of two", x.generations(7, 60, 2) >= 0, true);
    }

    /** A seed by which the first DRAWS of some are these. */
    private static int seedOf(int many, int who, int what, int from) {
        for (int seed = from; seed < from + 1_000_000; seed++) {
            int[] chance = {seed};
            if (draw(chance, many) == who && draw(chance, 4) == what) {
                return seed;
            }
        }
        throw new IllegalStateException("no such seed");
    }

    private static void draws() {
        CHECK.terms("A seed becomes itself times 1103515245 and 12345 (an int that wraps); a DRAW of n is its bits 16 to 30 MOD n then");
        // Who is drawn of so many: a dog bites that one, and its HOLES alone grow by 3.
        for (int many = 1; many <= 10; many++) {
            StringBuilder text = new StringBuilder();
            for (int i = 0; i < many; i++) {
                // Only who has 6 ahead (and 9 behind it, with 1 more) parts from whom one is bound to.
                text.append("plain 0 0 1 ").append(i % 2 == 0 ? 5 : 0).append(" 0;");
            }
            for (int i = 0; i + 1 < many; i += 2) {
                text.append("bound ").append(i).append(' ').append(i + 1).append(';');
            }
            SockFair x = CHECK.of(text + "alike 0;");
            for (int who = 0; who < many; who++) {
                int seed = seedOf(many, who, 0, 0);
                boolean parted = who % 2 == 0 && who + 1 < many;
                int bound = many / 2 * 2;
                int all = x.count(3) + many + 3;
                ages("a dog bites " + who + " of " + many, x, seed, 1, parted ? bound - 2 : bound, parted ? 1 : 0, all);
            }
        }
        // From the seeds at either end, and 0: the same by longs that are cut down.
        SockFair y = CHECK.of("plain 0 0 1 9 0;plain 0 0 1 9 0;alike 0;");
        for (int seed : new int[] {0, 1, -1, 2, Integer.MIN_VALUE, Integer.MAX_VALUE, -1103515245, 65536}) {
            int[] chance = {seed};
            draw(chance, 2);
            int holes = draw(chance, 4) == 2 ? 10 : 18;
            CHECK.same("generations(" + seed + ", 1, 2)", y.generations(seed, 1, 2), holes);
        }
    }

    private static void dogs() {
        CHECK.terms("0 a dog: 3 HOLES more (9 at most)");
        for (int holes = 0; holes <= 9; holes++) {
            SockFair x = CHECK.of("plain 0 0 1 " + holes + " 0;");
            ages("with " + holes, x, seedOf(1, 0, 0, 0), 1, 0, 0, Math.min(9, Math.min(9, holes + 3) + 1));
        }
        // Worn through by a dog: parted at the FAIR, and counted there.
        SockFair y = CHECK.of("plain 0 0 1 6 0;" + P + "bound 0 1;alike 0;");
        ages("9 by the dog", y, seedOf(2, 0, 0, 0), 1, 0, 1, 10);
        SockFair z = CHECK.of("plain 0 0 1 4 0;" + P + "bound 0 1;alike 0;");
        ages("8 at last", z, seedOf(2, 0, 0, 0), 1, 2, 0, 9);
    }

    private static void rivers() {
        CHECK.terms("1 a river: a couple is unravelled, if that one is bound");
        SockFair x = CHECK.of(P + P + P + "bound 0 2;alike 0;");
        ages("0 is bound", x, seedOf(3, 0, 1, 0), 1, 0, 0, 3);
        ages("1 isn't", x, seedOf(3, 1, 1, 0), 1, 2, 0, 3);
        ages("2 is bound", x, seedOf(3, 2, 1, 0), 1, 0, 0, 3);
        ages("nothing", x, seedOf(3, 0, 3, 0), 1, 2, 0, 3);
        // Ahead of the FAIR: that binds anew, and others.
        SockFair y = CHECK.of(P + P + P + "bound 0 2;");
        ages("bound anew", y, seedOf(3, 0, 1, 0), 1, 2, 0, 3);
    }

    private static void newSocks() {
        CHECK.terms("2 a new SOCK: COLOUR by a DRAW of 10 behind it, no HOLES, else nothing");
        // ALIKE by the COLOUR that is drawn alone.
        for (int colour = 0; colour <= 9; colour++) {
            int seed = seedOfColour(colour);
            SockFair x = CHECK.of("plain 0 0 1 9 0;plain 0 0 1 0 0;alike colours=" + colour + " and worn=0;");
            ages("COLOUR " + colour, x, seed, 1, 2, 0, 2);
            SockFair y = CHECK.of("plain 0 0 1 9 0;plain 0 0 1 0 0;alike colours=" + (colour + 1) % 10 + ";");
            ages("another COLOUR than " + colour, y, seed, 1, 0, 0, 2);
        }
        SockFair z = CHECK.of("plain 0 0 1 9 0;plain 0 0 1 0 0;bound 0 1;alike 0;");
        ages("bound still", z, seedOf(2, 0, 2, 0), 1, 2, 0, 2);
        // No DRAW of 10 but with a new SOCK: the next FAIR's draws follow at once.
        SockFair w = CHECK.of("plain 0 0 1 3 0;");
        int seed = 0;
        for (int tries = 0; tries < 1000; tries++) {
            int[] chance = {seed};
            draw(chance, 1);
            boolean nothing = draw(chance, 4) == 3;
            draw(chance, 1);
            if (nothing && draw(chance, 4) == 0) {
                break;
            }
            seed++;
        }
        ages("nothing, then a dog", w, seed, 2, 0, 0, 8);
    }

    private static int seedOfColour(int colour) {
        int from = 0;
        for (int tries = 0; tries < 10_000; tries++) {
            int seed = seedOf(2, 0, 2, from);
            int[] chance = {seed};
            draw(chance, 2);
            draw(chance, 4);
            if (draw(chance, 10) == colour) {
                return seed;
            }
            from = seed + 1;
        }
        throw new IllegalStateException("no such seed");
    }

    private static void wornAtFairs() {
        CHECK.terms("how many couples were unbound by being worn through, at FAIRS, all together");
        int nothing = seedOf(4, 0, 3, 0);
        // Both of a couple worn through are one couple; two couples are two.
        ages("both of one", CHECK.of(two(8, 8, P + P + "bound 0 1;alike 0;")), nothing, 1, 0, 1, 20);
        ages("one of one", CHECK.of(two(8, 0, P + P + "bound 0 1;alike 0;")), nothing, 1, 0, 1, 12);
        ages("two couples", CHECK.of(two(8, 0, two(0, 8, "bound 0 1;bound 3 2;alike 0;"))), nothing, 1, 0, 2, 20);
        ages("none is bound", CHECK.of(two(8, 8, P + P + "alike 0;")), nothing, 1, 0, 0, 20);
        ages("bound at the FAIR itself", CHECK.of(two(8, 8, two(8, 8, "alike 1;"))), nothing, 1, 0, 2, 36);
        ages("7 holes stay bound", CHECK.of(two(7, 7, P + P + "bound 0 1;alike 0;")), nothing, 1, 2, 0, 18);
    }

    private static void withoutPeople() {
        CHECK.terms("(Without PEOPLE nothing is drawn.)");
        for (int n : new int[] {0, 1, 60}) {
            ages("nobody", new SockFair(), 1, n, 0, 0, 0);
            ages("nobody told", CHECK.of("alike 1;"), Integer.MIN_VALUE, n, 0, 0, 0);
        }
        SockFair x = CHECK.of(P);
        x.fair(0);
        ages("nobody any more", x, 5, 60, 0, 0, 0);
    }

    private static void thoughtsOnly() {
        CHECK.promise(36, "GENERATIONS");
        Twins.stays(CHECK, "what only asks", x -> {
            x.basket(9, 0);
            x.game(0, 1, 0);
            x.game(3, 2, 1);
            for (int what = 0; what <= 2; what++) {
                x.generations(99, 60, what);
            }
        }, Twins.NO_STATUS);
    }
}
