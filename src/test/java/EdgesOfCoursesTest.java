/** The boundary cases of promises 15 to 19 and 39: then, when, worn, couples, single, lasts. */
public final class EdgesOfCoursesTest {
    private static final Check CHECK = new Check();
    private static final String P = Check.P;
    private static final int[] NO_FAIRS = {-1, 31, 32, -31, Integer.MIN_VALUE, Integer.MAX_VALUE};

    public static void main(String[] args) {
        thens();
        onlyFairs();
        whens();
        worns();
        couples();
        singles();
        lasts();
        nothingIsHeld();
        CHECK.namesPromises(15, 19);
        CHECK.namesPromises(39, 39);
        CHECK.end("EdgesOfCoursesTest");
    }

    // ---- promise 15 ----

    private static void thens() {
        CHECK.promise(15, "THEN; NONE: to nobody");
        SockFair x = CHECK.of(P + P + P);
        for (int fairs = 0; fairs <= 30; fairs++) {
            boolean bound = fairs >= 1 && fairs <= 8;
            CHECK.same("then(0, " + fairs + ")", x.then(0, fairs), bound ? 1 : -1);
            CHECK.same("then(1, " + fairs + ")", x.then(1, fairs), bound ? 0 : -1);
            CHECK.same("then(2, " + fairs + ")", x.then(2, fairs), -1);
        }
        SockFair y = CHECK.of(P + P + "bound 0 1;alike 0;");
        CHECK.same("behind none", y.then(0, 0), 1);
        CHECK.same("behind 8", y.then(1, 8), 0);
        CHECK.same("behind 9", y.then(1, 9), -1);
        CHECK.promise(15, "IllegalArgumentException (behind NoSuchElementException): not 0 to 30");
        for (int fairs : NO_FAIRS) {
            CHECK.illegal("then(0, " + fairs + ")", () -> x.then(0, fairs));
            CHECK.none("then(3, " + fairs + ")", () -> x.then(3, fairs));
            CHECK.none("then(-1, " + fairs + ")", () -> x.then(-1, fairs));
            Twins.stays(CHECK, "then(0, " + fairs + ")", z -> z.then(0, fairs), Twins.NO_STATUS);
        }
        CHECK.none("then(3, 0)", () -> x.then(3, 0));
        CHECK.none("then(3, 30)", () -> x.then(3, 30));
    }

    /** What comes is what hold makes of it, whatever was asked ahead and in which order. */
    private static void onlyFairs() {
        CHECK.terms("(If only FAIRS are held, from now on:) THEN: to whom one is bound behind so many FAIRS (0 to 30)");
        String text = Check.FIVE + "striped 3 1 9 4 2;heeled 2 3 12 7 9;alike 15-colours-sizes-holes*2;";
        int[] order = {8, 1, 30, 0, 9, 3, 20, 2, 7};
        SockFair x = CHECK.of(text);
        for (int fairs : order) {
            SockFair y = CHECK.of(text);
            if (fairs > 20) {
                y.hold(20);
            }
            if (fairs > 0) {
                y.hold(Math.min(20, fairs - y.count(1)));
            }
            for (int one = 0; one < 7; one++) {
                CHECK.same("then(" + one + ", " + fairs + ")", x.then(one, fairs), y.person(one, 6));
            }
            CHECK.same("couples(" + fairs + ")", x.couples(fairs), Integer.bitCount(y.count(2)) / 2);
            CHECK.same("single(" + fairs + ")", x.single(fairs), 127 - y.count(2));
        }
    }

    // ---- promise 16 ----

    private static void whens() {
        CHECK.promise(16, "WHEN; NONE: none");
        CHECK.terms("behind how many FAIRS (0: now; 1 to 30); none");
        // ALIKE at the FAIR ahead of which both together have so many HOLES: 0, 2 .. 16.
        for (int fair = 1; fair <= 9; fair++) {
            SockFair x = CHECK.of(P + P + "alike worn=" + 2 * (fair - 1) + ";");
            CHECK.same("at fair " + fair + " only", x.when(0), fair <= 8 ? fair : -1);
            CHECK.same("the other one", x.when(1), fair <= 8 ? fair : -1);
        }
        CHECK.same("now", CHECK.of(P + P + "bound 0 1;").when(1), 0);
        CHECK.same("now, worn through", CHECK.of("plain 0 0 1 9 0;plain 0 0 1 9 0;bound 0 1;").when(1), 0);
        CHECK.same("nobody else", CHECK.of(P).when(0), -1);
        CHECK.same("the odd one", CHECK.of(P + P + P).when(2), -1);
        CHECK.same("bound and unbound at one fair", CHECK.of("plain 0 0 1 8 0;" + P).when(1), -1);
        CHECK.same("for one fair", CHECK.of("plain 0 0 1 7 0;" + P).when(1), 1);
        // 2 gets 1 only when 0 is worn through, behind 3 FAIRS: at the 4th one (0 and 1 are alike no more with 9).
        SockFair y = CHECK.of("plain 0 0 1 6 0;" + P + P + "alike (worn<11)*(worn+1);");
        CHECK.same("0", y.when(0), 1);
        CHECK.same("1", y.when(1), 1);
        CHECK.same("2", y.when(2), 4);
        CHECK.same("ahead of that", y.then(2, 3), -1);
        CHECK.same("then", y.then(2, 4), 1);
        y.hold(4);
        CHECK.same("now", y.when(2), 0);
        CHECK.same("never again", y.when(0), -1);
    }

    // ---- promise 17 ----

    private static void worns() {
        CHECK.promise(17, "WORN.");
        CHECK.terms("WORN: behind how many FAIRS one has 9 HOLES (0 to 9)");
        for (int holes = 0; holes <= 9; holes++) {
            SockFair x = CHECK.of("plain 0 0 1 " + holes + " 0;");
            CHECK.same("worn with " + holes, x.worn(0), 9 - holes);
            if (holes < 9) {
                x.hold(9 - holes);
                CHECK.same("so it is", x.person(0, 4), 9);
            }
            CHECK.same("worn now", x.worn(0), 0);
            x.hold(1);
            CHECK.same("worn still", x.worn(0), 0);
            x.darn(0, 9);
            CHECK.same("darned", x.worn(0), 9);
        }
    }

    // ---- promises 18 and 19 ----

    private static void couples() {
        CHECK.promise(18, "COUPLES");
        CHECK.terms("COUPLES behind so many FAIRS (0 to 30)");
        SockFair x = CHECK.of(P.repeat(10));
        for (int fairs = 0; fairs <= 30; fairs++) {
            CHECK.same("couples(" + fairs + ")", x.couples(fairs), fairs >= 1 && fairs <= 8 ? 5 : 0);
        }
        CHECK.same("of one", CHECK.of(P).couples(1), 0);
        CHECK.same("of nobody", new SockFair().couples(30), 0);
        CHECK.same("now", CHECK.of(P + P + "bound 0 1;").couples(0), 1);
        CHECK.promise(18, "IllegalArgumentException: not 0 to 30");
        for (int fairs : NO_FAIRS) {
            CHECK.illegal("couples(" + fairs + ")", () -> x.couples(fairs));
            CHECK.illegal("couples(" + fairs + ") of nobody", () -> new SockFair().couples(fairs));
            Twins.stays(CHECK, "couples(" + fairs + ")", z -> z.couples(fairs), Twins.NO_STATUS);
        }
    }

    private static void singles() {
        CHECK.promise(19, "SINGLE, as bits");
        CHECK.terms("SINGLE behind so many FAIRS: who is bound to nobody");
        SockFair x = CHECK.of(P.repeat(9));
        for (int fairs = 0; fairs <= 30; fairs++) {
            CHECK.same("single(" + fairs + ")", x.single(fairs), fairs >= 1 && fairs <= 8 ? 256 : 511);
        }
        CHECK.same("all ten", CHECK.of(P.repeat(10)).single(0), 1023);
        CHECK.same("none of ten", CHECK.of(P.repeat(10)).single(1), 0);
        CHECK.same("of nobody", new SockFair().single(0), 0);
        CHECK.same("of two who are bound", CHECK.of(P + P + "bound 0 1;").single(0), 0);
        CHECK.promise(19, "IllegalArgumentException: not 0 to 30");
        for (int fairs : NO_FAIRS) {
            CHECK.illegal("single(" + fairs + ")", () -> x.single(fairs));
            CHECK.illegal("single(" + fairs + ") of nobody", () -> new SockFair().single(fairs));
            Twins.stays(CHECK, "single(" + fairs + ")", z -> z.single(fairs), Twins.NO_STATUS);
        }
    }

    // ---- promise 39 ----

    private static void lasts() {
        CHECK.promise(39, "LASTS; NONE: none, bound to nobody");
        CHECK.terms("LASTS: behind how many FAIRS from now (1 to 30) who is bound now is unbound first; none");
        for (int holes = 0; holes <= 9; holes++) {
            for (int others = 0; others <= 9; others += 3) {
                SockFair x = CHECK.of("plain 0 0 1 " + holes + " 0;plain 0 0 1 " + others + " 0;bound 0 1;");
                int due = Math.max(1, 9 - Math.max(holes, others));
                CHECK.same("lasts(0) with " + holes + " and " + others, x.lasts(0), due);
                CHECK.same("lasts(1) with " + holes + " and " + others, x.lasts(1), due);
                CHECK.same("then one ahead", x.then(0, due - 1), 1);
                CHECK.same("then", x.then(0, due), -1);
            }
        }
        CHECK.same("bound to nobody", CHECK.of(P + P).lasts(0), -1);
        CHECK.same("bound at the next fair only", CHECK.of(P + P).lasts(1), -1);
        CHECK.same("alone", CHECK.of(P).lasts(0), -1);
        SockFair x = CHECK.of(P + P);
        x.hold(8);
        CHECK.same("bound now", x.lasts(0), 1);
        x.hold(1);
        CHECK.same("unbound now", x.lasts(0), -1);
        CHECK.same("bound again by hand", x.bind(0, 1), true);
        CHECK.same("with 9 holes", x.lasts(0), 1);
        x.darn(0, 9);
        CHECK.same("the other one has 9", x.lasts(0), 1);
        x.darn(1, 9);
        CHECK.same("both are darned", x.lasts(0), 9);
    }

    private static void nothingIsHeld() {
        CHECK.promise(15, "THEN");
        Twins.stays(CHECK, "what only asks", x -> {
            for (int fairs = 0; fairs <= 30; fairs += 10) {
                x.then(0, fairs);
                x.couples(fairs);
                x.single(fairs);
            }
            for (int one = 0; one < 4; one++) {
                x.when(one);
                x.worn(one);
                x.lasts(one);
            }
        }, Twins.NO_STATUS);
    }
}
