/** Promises 33, 34, 36: basket, game, generations. */
public final class GameTest {
    private static final Check CHECK = new Check();

    public static void main(String[] args) {
        baskets();
        games();
        generations();
        CHECK.end("GameTest");
    }

    private static void baskets() {
        int[][] due = {{0, 1, 1}, {0, 1, 2}, {1, 1, 2}, {1, 11, 24}, {2, 13, 30}, {2, 77, 180}, {2, 29, 70},
            {3, 459, 1120}, {3, 341, 840}};
        SockFair x = new SockFair();
        for (int socks = 1; socks <= 9; socks++) {
            for (int what = 0; what <= 2; what++) {
                CHECK.same("basket(" + socks + ", " + what + ")", x.basket(socks, what), due[socks - 1][what]);
            }
        }
        for (int socks : new int[] {0, -1, 10, Integer.MAX_VALUE, Integer.MIN_VALUE}) {
            CHECK.illegal("basket", () -> x.basket(socks, 0));
            CHECK.none("basket, what first", () -> x.basket(socks, 3));
        }
        CHECK.none("basket", () -> x.basket(5, -1));
        CHECK.none("basket", () -> x.basket(5, 3));
    }

    private static void game(SockFair x, int one, int other, int many, int first) {
        CHECK.same("game(" + one + ", " + other + ", 0)", x.game(one, other, 0), many);
        CHECK.same("game(" + one + ", " + other + ", 1)", x.game(one, other, 1), first);
    }

    private static void games() {
        SockFair x = CHECK.of(Check.FIVE);
        // 4 hides: 13 - 1 against 5; 0 gains nothing by hiding.
        game(x, 0, 4, 1, 1);
        game(x, 4, 0, 1, 10);
        // Never alike: hiding costs 1.
        game(x, 0, 3, 1, 0);
        // One hole: 15 - 1 hidden, 14 shown; both rest.
        game(CHECK.of("plain 0 0 1 1 0;plain 0 0 1 0 0;"), 0, 1, 2, 0);
        game(CHECK.of("plain 0 0 1 1 0;plain 0 0 1 0 0;"), 1, 0, 2, 0);
        // As many holes: both show, or both hide.
        game(CHECK.of("plain 0 0 1 4 0;plain 0 0 1 4 0;"), 0, 1, 2, 0);
        // Both must hide: alike by whole socks alone.
        game(CHECK.of("plain 0 0 1 4 0;plain 0 0 1 4 0;alike 9*(worn=0);"), 0, 1, 2, 0);
        game(CHECK.of("plain 0 0 1 4 0;plain 0 0 1 4 0;alike 20-2*worn;"), 0, 1, 1, 11);
        // Not below 0: what isn't alike is as good as 0.
        game(CHECK.of("plain 0 0 1 4 0;plain 0 0 1 0 0;alike (worn=0)-5;"), 0, 1, 1, 0);
        game(CHECK.of("plain 0 0 1 4 0;plain 0 0 1 0 0;alike 1-worn;"), 0, 1, 2, 0);
        SockFair y = CHECK.of("plain 0 0 1 4 0;plain 0 0 1 0 0;bound 0 1;alike 7-worn;");
        game(y, 0, 1, 1, 10);
        y.darn(0, 9);
        game(y, 0, 1, 1, 0);
        for (int what : new int[] {-1, 2, Integer.MIN_VALUE}) {
            CHECK.none("game", () -> x.game(0, 1, what));
            CHECK.none("game, what first", () -> x.game(0, 0, what));
        }
        for (int who : new int[] {-1, 5}) {
            CHECK.none("game", () -> x.game(who, 0, 0));
            CHECK.none("game", () -> x.game(0, who, 0));
            CHECK.none("game, nobody first", () -> x.game(who, who, 0));
        }
        CHECK.illegal("game of one", () -> x.game(2, 2, 1));
    }

    private static void ages(SockFair x, int seed, int n, int bound, int parted, int holes) {
        CHECK.same("generations(" + seed + ", " + n + ", 0)", x.generations(seed, n, 0), bound);
        CHECK.same("generations(" + seed + ", " + n + ", 1)", x.generations(seed, n, 1), parted);
        CHECK.same("generations(" + seed + ", " + n + ", 2)", x.generations(seed, n, 2), holes);
    }

    /** Draws by seed 1: 16838, 5758, 10113, 17515, 31051, 5627, 23010, 7419; by seed 0: 0, 21468, 9988, 22117. */
    private static void generations() {
        SockFair one = CHECK.of("plain 5 0 1 4 0;");
        ages(one, 1, 0, 0, 0, 4);
        ages(one, 1, 1, 0, 0, 1); // a new sock, colour 3
        ages(one, 1, 2, 0, 0, 2); // nothing
        ages(one, 1, 3, 0, 0, 1); // a new sock, colour 9
        ages(one, 0, 1, 0, 0, 8); // a dog
        SockFair two = CHECK.of("plain 0 0 1 4 0;plain 0 0 1 7 0;");
        ages(two, 1, 0, 0, 0, 11);
        ages(two, 1, 1, 2, 0, 9); // 0 gets colour 3: 10 - 3 - 7 + 5
        ages(two, 1, 2, 0, 1, 11); // 1 is worn through
        ages(two, 1, 3, 2, 1, 4); // 1 gets colour 9: 10 - 6 - 2 + 5
        ages(two, 0, 1, 2, 0, 16); // a dog bites 0
        ages(two, 0, 2, 0, 1, 18); // a river parts them, the fair binds them, both are worn through: one couple
        SockFair river = CHECK.of("plain 0 0 1 0 0;plain 0 0 1 0 0;bound 0 1;alike 0;");
        ages(river, 0, 1, 2, 0, 5);
        ages(river, 0, 2, 0, 0, 7);
        ages(river, 5, 1, 0, 0, 2); // 18655, 8457: a river for 1, who is bound to 0
        SockFair dog = CHECK.of("plain 0 0 1 8 0;plain 0 0 1 0 0;bound 0 1;alike 0;");
        ages(dog, 0, 1, 0, 1, 10); // 9 at most
        CHECK.same("nothing has happened", dog.count(2), 3);
        CHECK.same("nothing has happened", dog.count(3), 8);
        ages(new SockFair(), 1, 60, 0, 0, 0);
        SockFair x = CHECK.of(Check.FIVE);
        ages(x, 77, 0, 0, 0, 9);
        for (int n : new int[] {-1, 61, Integer.MAX_VALUE, Integer.MIN_VALUE}) {
            CHECK.illegal("generations", () -> x.generations(1, n, 0));
            CHECK.none("generations, what first", () -> x.generations(1, n, 3));
            CHECK.illegal("generations of nobody", () -> new SockFair().generations(1, n, 2));
        }
        CHECK.none("generations", () -> x.generations(1, 1, -1));
        CHECK.none("generations", () -> x.generations(1, 1, 3));
    }
}
