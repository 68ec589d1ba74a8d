import java.util.Arrays;
import java.util.List;

/** The boundary cases of 'Terms' about TEXTS: TOKENS, LINES, EXPR, what it gives, FAULTS. */
public final class EdgesOfTextsTest {
    private static final Check CHECK = new Check();
    private static final String P = Check.P;
    private static final String TWO = P + P;

    private static final List<String> WORDS = List.of("plain", "striped", "argyle", "heeled", "bound", "alike", "likes",
        "or", "and", "not", "colours", "sizes", "holes", "worn", "pattern", "wool", "charm", "own", "size", "sock", "a", "z");
    private static final List<String> SIGNS = List.of(";", "(", ")", "+", "-", "*", "/", "<", "=");
    private static final List<String> NUMBERS = List.of("0", "1", "9999", "0000", "10000", "00000", "99999999999999999999");
    private static final List<String> NO_TOKENS = List.of(">", "A", "Z", ",", ".", ":", "_", "{", "`", "\t", "\u0080", "\u00ff");

    private static final List<String> ALIKE_VALUES = List.of("colours", "sizes", "holes", "worn", "pattern", "wool", "plain");
    private static final List<String> LIKES_VALUES = List.of("alike", "charm", "own", "size", "holes");

    public static void main(String[] args) {
        people();
        numbersAsTold();
        longestText();
        words();
        numbers();
        signs();
        blanks();
        lines();
        tokensInLines();
        tokensInExprs();
        endsTooSoon();
        firstAlongTheText();
        leastOfOneToken();
        tooMuch();
        unknown();
        boundAlready();
        second();
        levels();
        wrapping();
        dividing();
        truth();
        valuesOfAlike();
        valuesOfLikes();
        CHECK.end("EdgesOfTextsTest");
    }

    // ---- PEOPLE, and what of them is told ----

    private static void people() {
        CHECK.terms("PEOPLE 0, 1 .. (at most 10)");
        for (int many = 0; many <= 10; many++) {
            SockFair x = CHECK.of(P.repeat(many));
            CHECK.same("of " + many + ", count(0)", x.count(0), many);
            CHECK.none("of " + many + ", the one behind the last", () -> x.person(x.count(0), 3));
            if (many > 0) {
                CHECK.same("of " + many + ", the last one", x.person(many - 1, 3), 1);
            }
        }
        CHECK.terms("the first TOKEN of the 11th of PEOPLE");
        for (String pattern : new String[] {"plain", "striped", "argyle", "heeled"}) {
            CHECK.fault(P.repeat(9) + pattern + " 0 0 1 0 0;", 0, -1);
            CHECK.fault(P.repeat(10) + pattern + " 0 0 1 0 0;", 2, 160);
            CHECK.fault(P.repeat(10) + "  " + pattern, 2, 162);
            CHECK.fault(P.repeat(10) + "alike 1;" + pattern + " sock", 2, 168);
        }
        CHECK.good(P.repeat(10) + "bound 0 9;alike 1;likes 1;");
        CHECK.fault(P.repeat(11), 2, 160);
        CHECK.fault(P.repeat(10) + "sock", 1, 160);
    }

    /** A NUMBER of one of PEOPLE, at a place (0 to 4), with the others as small as they may be. */
    private static String with(int place, String number) {
        String[] all = {"0", "0", "1", "0", "0"};
        all[place] = number;
        return "plain " + String.join(" ", all) + ";";
    }

    private static void range(String words, int place, int least, int most, int what) {
        CHECK.terms(words);
        int at = "plain ".length() + 2 * place;
        for (int number : new int[] {least, most}) {
            SockFair x = CHECK.of(with(place, String.valueOf(number)));
            CHECK.same("person(0, " + what + ")", x.person(0, what), number);
        }
        CHECK.fault(with(place, String.valueOf(most + 1)), 2, at);
        CHECK.fault(with(place, "9999"), 2, at);
        CHECK.fault(with(place, "000" + most + "0"), 2, at);
        if (least > 0) {
            CHECK.fault(with(place, String.valueOf(least - 1)), 2, at);
            CHECK.fault(with(place, "0000"), 2, at);
        }
        CHECK.fault(with(place, "-1"), 1, at);
    }

    private static void numbersAsTold() {
        range("COLOUR (0 to 9)", 0, 0, 9, 0);
        range("WOOL (0 to 3)", 1, 0, 3, 2);
        range("SIZE (1 to 30)", 2, 1, 30, 3);
        range("HOLES (0 to 9)", 3, 0, 9, 4);
        range("CHARM (0 to 20)", 4, 0, 20, 5);
        CHECK.terms("PATTERN (0 plain, 1 striped, 2 argyle, 3 heeled)");
        SockFair x = CHECK.of("heeled 0 0 1 0 0;argyle 0 0 1 0 0;striped 0 0 1 0 0;plain 0 0 1 0 0;");
        for (int one = 0; one < 4; one++) {
            CHECK.same("pattern of " + one, x.person(one, 1), 3 - one);
        }
        CHECK.terms("or (not in an EXPR) not as told");
        CHECK.good("alike 9999;likes 31;");
        CHECK.fault("plain 9 3 30 9 31;", 2, 15);
    }

    private static void longestText() {
        CHECK.terms("A TEXT of at most 700 bytes tells it");
        // 160 bytes of people, and a rule of 540: 1 and 266 more.
        String full = P.repeat(10) + "alike 1" + "+1".repeat(266) + ";";
        CHECK.same("bytes", full.length(), 700);
        SockFair x = CHECK.of(full);
        CHECK.same("people", x.count(0), 10);
        CHECK.same("all of the rule", x.alike(0, 9), 267);
        CHECK.fault(full.substring(0, 699) + " ", 1, 700);
        CHECK.fault(full.substring(0, 699) + ")", 1, 699);
        CHECK.fault("alike 1" + "+1".repeat(346) + "+", 1, 700);
        SockFair y = CHECK.of("likes " + "(1)+".repeat(173) + "1;");
        CHECK.same("many parentheses side by side", y.count(0), 0);
        CHECK.good("\n".repeat(349) + "likes 1;" + " ".repeat(343));
    }

    // ---- TOKENS ----

    private static void words() {
        CHECK.terms("words (a .. z, the longest row)");
        CHECK.good("alike(1)or(0);");
        CHECK.fault("alike 1 orr 0;", 1, 8);
        CHECK.fault("alike 1 o r 0;", 1, 8);
        CHECK.fault("plainplain 0 0 1 0 0;", 1, 0);
        CHECK.fault("alikeworn;", 1, 0);
        CHECK.fault("alike wornworn;", 3, 6);
        CHECK.fault("alike colour;", 3, 6);
        CHECK.fault("alike colourss;", 3, 6);
        CHECK.fault("alike sizess;", 3, 6);
        CHECK.fault("striped" + "striped".repeat(50), 1, 0);
        // Beside a and z stand ` and {.
        CHECK.fault("alike worn`;", 1, 10);
        CHECK.fault("alike worn{;", 1, 10);
        CHECK.fault("alike Worn;", 1, 6);
        CHECK.fault("Alike worn;", 1, 0);
        CHECK.fault("alikE worn;", 1, 0);
        for (char c = 'a'; c <= 'z'; c++) {
            CHECK.fault("alike " + c + "worn;", 3, 6);
            CHECK.fault("alike worn" + c + ";", 3, 6);
            CHECK.fault(String.valueOf(c), 1, 0);
        }
    }

    private static void numbers() {
        CHECK.terms("NUMBERS (1 to 4 digits)");
        CHECK.same("1 digit", alike("7"), 7);
        CHECK.same("4 digits", alike("9999"), 9999);
        CHECK.same("4 digits with 0 ahead", alike("0070"), 70);
        CHECK.same("all digits", alike("1234+5678+90"), 7002);
        CHECK.terms("a NUMBER of 5 digits or more");
        CHECK.fault("alike 10000;", 2, 6);
        CHECK.fault("alike 00000;", 2, 6);
        CHECK.fault("likes 1+123456;", 2, 8);
        CHECK.fault("alike " + "1".repeat(400) + ";", 2, 6);
        CHECK.fault("alike 4294967297;", 2, 6);
        CHECK.fault("plain 0 0 4294967297 0 0;", 2, 10);
        CHECK.fault("plain 00000 0 1 0 0;", 2, 6);
        CHECK.fault("plain 0 0 1 0 00000;", 2, 14);
        CHECK.fault(TWO + "bound 00000 1;", 2, 38);
        CHECK.fault(TWO + "bound 0 00001;", 2, 40);
        // Beside 0 and 9 stand / and :.
        CHECK.same("/ is a sign", alike("8/2"), 4);
        CHECK.fault("alike 8:2;", 1, 7);
    }

    private static void signs() {
        CHECK.terms("signs ; ( ) + - * / < =");
        CHECK.same("all of them", alike("((8-2)*3/2+1<11)=1"), 1);
        // Each is one by itself, whatever stands beside it.
        CHECK.fault("alike 1<=2;", 1, 8);
        CHECK.fault("alike 1==1;", 1, 8);
        CHECK.fault("alike 1+-1;", 1, 8);
        CHECK.fault("alike 2**3;", 1, 8);
        CHECK.fault("alike 1;;", 1, 8);
        // Beside them stand other bytes, which are none: 39, 44, 46, 58, 62.
        for (char none : new char[] {39, 44, 46, 58, 62}) {
            CHECK.fault("alike 1" + none + "2;", 1, 7);
            CHECK.fault("alike " + none + "2;", 1, 6);
        }
        // And those that are a sign and 128 more.
        for (String sign : SIGNS) {
            CHECK.fault("alike 1" + (char) (sign.charAt(0) + 128) + "2;", 1, 7);
        }
    }

    private static void blanks() {
        CHECK.terms("blanks (32, 10) between them count for nothing");
        CHECK.good("\n plain\n0  0\n\n1 0 \n 0 ; \n");
        CHECK.good("plain0 0 1 0 0;");
        CHECK.same("none at all", CHECK.of(TWO + "alike(1+2)*3<9or 1and not 0;").alike(0, 1), 1);
        CHECK.same("everywhere", CHECK.of(TWO + "alike\n( 1 +\n2 ) * 3 < 9\nor 1 and\nnot 0 ;").alike(0, 1), 1);
        CHECK.fault("alike 1 1;", 1, 8);
        CHECK.fault("alike 1\n1;", 1, 8);
        CHECK.fault("al ike 1;", 1, 0);
        for (int b : new int[] {0, 1, 9, 11, 12, 13, 31, 33, 127, 128, 133, 138, 160, 255}) {
            CHECK.fault((char) b + "alike 1;", 1, 0);
            CHECK.fault("alike" + (char) b + "1;", 1, 5);
            CHECK.fault("alike 1" + (char) b + ";", 1, 7);
            CHECK.fault("alike 1;" + (char) b, 1, 8);
        }
    }

    // ---- LINES ----

    private static void lines() {
        CHECK.terms("FAIR: LINE*");
        CHECK.good("");
        CHECK.good(" ");
        CHECK.good("\n\n");
        CHECK.good(P);
        CHECK.fault(";", 1, 0);
        CHECK.fault(P + ";", 1, 16);
        CHECK.fault(P + P.substring(0, 15) + P, 1, 31);
        CHECK.terms("in capitals but EXPR being NUMBERS");
        SockFair x = CHECK.of("likes 5;" + P + "alike 4;" + P + "bound 1 0;" + P + P + "bound 3 0002;");
        CHECK.same("in any order", x.count(0), 4);
        CHECK.same("bound", x.count(2), 15);
        CHECK.same("bound to", x.person(2, 6), 3);
        CHECK.same("alike", x.alike(0, 1), 4);
        CHECK.same("likes", x.liking(0, 1), 5);
    }

    private enum Place { LINE, NUMBER, PERSON, END, START, PART, BEHIND, BEHIND_TEST, BEHIND_INSIDE }

    /** What is due for a TOKEN at a place: 0 it may stand there, or the FAULT. */
    private static int due(Place place, String token, List<String> values) {
        boolean number = NUMBERS.contains(token);
        boolean word = WORDS.contains(token);
        switch (place) {
            case LINE: return WORDS.indexOf(token) >= 0 && WORDS.indexOf(token) <= 6 ? 0 : 1;
            case NUMBER: return !number ? 1 : token.equals("0") || token.equals("1") || token.equals("0000") ? 0 : 2;
            case PERSON: return token.equals("9999") ? 3 : due(Place.NUMBER, token, values);
            case END: return token.equals(";") ? 0 : 1;
            case START:
            case PART:
                if (number) {
                    return token.length() > 4 ? 2 : 0;
                }
                if (word) {
                    return values.contains(token) || place == Place.START && token.equals("not") ? 0 : 3;
                }
                return token.equals("(") ? 0 : 1;
            default:
                boolean test = token.equals("<") || token.equals("=");
                boolean ends = token.equals(place == Place.BEHIND_INSIDE ? ")" : ";");
                boolean joins = List.of("or", "and", "+", "-", "*", "/").contains(token);
                return joins || ends || test && place != Place.BEHIND_TEST ? 0 : 1;
        }
    }

    private static void every(String ahead, Place place, List<String> values) {
        for (List<String> tokens : List.of(WORDS, SIGNS, NUMBERS, NO_TOKENS)) {
            for (String token : tokens) {
                String text = ahead + " " + token;
                int code = due(place, token, values);
                if (code != 0) {
                    CHECK.fault(text, code, ahead.length() + 1);
                } else if (token.equals(";")) {
                    CHECK.good(text);
                } else {
                    CHECK.fault(text, 1, text.length());
                    CHECK.fault(text + "\n ", 1, text.length() + 2);
                }
            }
        }
        CHECK.fault(ahead, place == Place.LINE ? 0 : 1, place == Place.LINE ? -1 : ahead.length());
    }

    private static void tokensInLines() {
        CHECK.terms("1 a TOKEN that can't stand there, or is none");
        every("", Place.LINE, List.of());
        every(P, Place.LINE, List.of());
        for (String ahead : new String[] {"plain", "plain 9", "striped 9 3 30", "argyle 9 3 30 9"}) {
            every(ahead, Place.NUMBER, List.of());
        }
        every("heeled 0 0 1 0 0", Place.END, List.of());
        every(TWO + "bound", Place.PERSON, List.of());
        every(TWO + "bound 0 1", Place.END, List.of());
    }

    private static void tokensInExprs() {
        CHECK.terms("any word where a PART must stand that is no VALUE of this EXPR");
        for (List<String> values : List.of(ALIKE_VALUES, LIKES_VALUES)) {
            String rule = values == ALIKE_VALUES ? "alike" : "likes";
            for (String ahead : new String[] {"", " not", " 1 or", " 1 and", " 1 and not not", " (", " (((((", " 1+(", " 1<2 or"}) {
                every(rule + ahead, Place.START, values);
            }
            for (String ahead : new String[] {" 1+", " 1-", " 1*", " 1/", " 1<", " 1=", " not 1+", " 1<2*", " (1="}) {
                every(rule + ahead, Place.PART, values);
            }
            for (String ahead : new String[] {" 1", " holes", " (1)", " not 1", " 1*2", " 1+2-3", " 1<2 or 3", " 1=2 and 3", " (1<2)"}) {
                every(rule + ahead, Place.BEHIND, values);
            }
            for (String ahead : new String[] {" 1<2", " 1=2", " not 1<2+3*4", " 1 or 1=(2)"}) {
                every(rule + ahead, Place.BEHIND_TEST, values);
            }
            for (String ahead : new String[] {" (1", " 1<2+(holes", " (((((1", " ((1<2)"}) {
                every(rule + ahead, Place.BEHIND_INSIDE, values);
            }
        }
    }

    // ---- FAULTS ----

    private static void endsTooSoon() {
        CHECK.terms("(the text's length where it ends too soon)");
        String[] tokens = {"plain", "1", "2", "3", "4", "5", ";", "heeled", "0", "0", "1", "0", "0", ";", "bound", "1", "0", ";",
            "alike", "not", "(", "1", "+", "worn", "*", "2", "<", "3", "or", "0", ")", "and", "1", "=", "1", ";", "likes", "own", "/", "2", ";"};
        for (int many = 1; many <= tokens.length; many++) {
            String text = String.join(" ", Arrays.copyOf(tokens, many));
            boolean ends = tokens[many - 1].equals(";");
            CHECK.fault(text, ends ? 0 : 1, ends ? -1 : text.length());
            CHECK.fault(text + " \n", ends ? 0 : 1, ends ? -1 : text.length() + 2);
        }
    }

    private static void firstAlongTheText() {
        CHECK.terms("FAULTS, the first along the text, at a TOKEN's first byte");
        CHECK.fault("alike 1;alike 1;sock", 5, 8);
        CHECK.fault("sock;alike 1;alike 1;", 1, 0);
        CHECK.fault(P + "bound 0 0;plain 10", 4, 24);
        CHECK.fault("plain 10 0 1 0 0;" + P + "bound 0 0;", 2, 6);
        CHECK.fault("alike charm+12345;", 3, 6);
        CHECK.fault("alike 12345+charm;", 2, 6);
        CHECK.fault("bound 0 12345;", 3, 6);
        CHECK.fault(P + "bound 0 1 sock", 3, 24);
        CHECK.fault("plain 0 4 31 10 21", 2, 8);
        CHECK.fault("   alike   charm  ;", 3, 11);
        CHECK.fault("alike 1  sock", 1, 9);
    }

    private static void leastOfOneToken() {
        CHECK.terms("of one TOKEN the least");
        // 1 ahead of 2: a NUMBER of 5 digits where none can stand.
        CHECK.fault("12345", 1, 0);
        CHECK.fault("alike 1 12345;", 1, 8);
        CHECK.fault("plain 0 0 1 0 0 12345;", 1, 16);
        // 1 ahead of 3: a word that is no VALUE where no PART can stand.
        CHECK.fault("alike 1 charm;", 1, 8);
        CHECK.fault("likes (1) sock;", 1, 10);
        // 1 ahead of 5, 3 ahead of 5: a second one that doesn't begin a LINE.
        CHECK.fault("alike 1 alike 1;", 1, 8);
        CHECK.fault("alike alike 1;", 3, 6);
        CHECK.fault("likes 1;alike likes;", 3, 14);
        // 2 ahead of 3: too much, and no VALUE, or not told ahead.
        CHECK.fault("alike ((((((sock", 2, 12);
        CHECK.fault("bound 12345 0;", 2, 6);
        CHECK.fault(P + "bound 0 12345;", 2, 24);
        // 2 ahead of 4: also of who would be bound already.
        CHECK.fault(TWO + "bound 0 1;bound 00000 1;", 2, 48);
        CHECK.fault(P + "bound 0 00000;", 2, 24);
        // 3 ahead of 4 can't be: who is bound is told.
        CHECK.fault(P + "bound 1 1;", 3, 22);
    }

    private static void tooMuch() {
        CHECK.terms("of an EXPR within 6 others (a NUMBER, any word, a parenthesis)");
        for (String rule : new String[] {"alike", "likes"}) {
            CHECK.good(rule + " (((((1)))));");
            CHECK.good(rule + " (((((not holes)))));");
            CHECK.good(rule + " (((((1)))))+(((((1)))))<(((((1)))));");
            CHECK.good(rule + " 1+(1*(1-(1/(1<(1 or 1 and not 1)))));");
            for (String token : WORDS) {
                CHECK.fault(rule + " ((((((" + token, 2, 12);
                CHECK.fault(rule + " 1+(1*(1-(1/(1<(1 or (" + token + ")", 2, 27);
            }
            for (String token : new String[] {"0", "9999", "12345", "(", "((1"}) {
                CHECK.fault(rule + " ((((((" + token, 2, 12);
                CHECK.fault(rule + " (((((( \n" + token, 2, 14);
                CHECK.fault(rule + " (((((1+(" + token, 2, 14);
                CHECK.fault(rule + " (((((1)+((" + token, 2, 16);
            }
            for (String token : new String[] {")", ";", "+", "-", "*", "/", "<", "=", ">", "A", "\u00e9"}) {
                CHECK.fault(rule + " ((((((" + token, 1, 12);
            }
            CHECK.fault(rule + " ((((((", 1, 12);
            CHECK.fault(rule + " (((((( ", 1, 13);
        }
        CHECK.terms("the seventh 'not' side by side");
        String six = "not ".repeat(6);
        CHECK.good("alike " + six + "1;");
        CHECK.fault("alike " + six + "not 1;", 2, 30);
        CHECK.fault("alike " + six + "not", 2, 30);
        CHECK.fault("alike " + six + six + "1;", 2, 30);
        CHECK.good("alike " + six + "1 and " + six + "1 or " + six + "1;");
        CHECK.fault("alike " + six + "1 and " + six + "not 1;", 2, 60);
        CHECK.fault("likes 1 or " + six + "\nnot 1;", 2, 36);
        CHECK.good("alike " + six + "(" + six + "(" + six + "1));");
        CHECK.fault("alike " + six + "(" + six + "not 1);", 2, 55);
        CHECK.good("alike (((((" + six + "1)))));");
        CHECK.fault("alike (((((" + six + "not", 2, 35);
        CHECK.same("six of them", alike(six + "7"), 1);
        CHECK.same("five of them", alike(six.substring(4) + "7"), 0);
    }

    private static void unknown() {
        CHECK.terms("one of PEOPLE that isn't told ahead");
        for (int many = 1; many <= 9; many++) {
            String ahead = P.repeat(many);
            CHECK.fault(ahead + "bound " + many + " 0;", 3, ahead.length() + 6);
            CHECK.fault(ahead + "bound 0 " + many + ";", 3, ahead.length() + 8);
            CHECK.fault(ahead + "bound 0 " + many + ";" + P, 3, ahead.length() + 8);
            CHECK.good(ahead + P + "bound 0 " + many + ";");
        }
        CHECK.fault("bound 0 0;", 3, 6);
        CHECK.fault("bound 0000 1;" + TWO, 3, 6);
        CHECK.good(P.repeat(10) + "bound 9 8;");
    }

    private static void boundAlready() {
        CHECK.terms("4 one of PEOPLE who is bound already, the second one of 'bound' who is the first one");
        String four = P.repeat(4) + "bound 1 2;"; // 74 bytes
        CHECK.fault(four + "bound 1 0;", 4, 80);
        CHECK.fault(four + "bound 2 0;", 4, 80);
        CHECK.fault(four + "bound 0 1;", 4, 82);
        CHECK.fault(four + "bound 0 2;", 4, 82);
        CHECK.fault(four + "bound 1 2;", 4, 80);
        CHECK.fault(four + "bound 0 0;", 4, 82);
        CHECK.fault(four + "bound 0 0000;", 4, 82);
        CHECK.good(four + "bound 3 0;");
        CHECK.fault(four + "bound 3 0;bound 0 3;", 4, 90);
    }

    private static void second() {
        CHECK.terms("5 a second 'alike', 'likes'");
        CHECK.good("alike 1;likes 1;");
        CHECK.good("likes 1;alike 1;");
        CHECK.fault("alike 1;alike 1;", 5, 8);
        CHECK.fault("likes 1;likes 1;", 5, 8);
        CHECK.fault("alike 1;likes 1;alike", 5, 16);
        CHECK.fault("alike 1;likes 1;" + P + " likes;", 5, 33);
        CHECK.fault("alike 0;alike 12345;", 5, 8);
        // A text ahead has told them: that is none of this one.
        SockFair x = CHECK.of("alike 1;likes 1;");
        CHECK.same("alike again", x.fair(Check.tape(x, "alike 2;")), 0);
        CHECK.same("likes again", x.fair(Check.tape(x, "likes 2;alike 3;")), 0);
        CHECK.same("a fault", x.fair(Check.tape(x, "likes 2;alike 3;sock")), 1);
        CHECK.same("likes and alike again", x.fair(Check.tape(x, "alike 3;likes 2;")), 0);
    }

    // ---- what an EXPR gives ----

    /** What a rule gives for two: colours 0 and 9, sizes 1 and 30, holes 9 and 0, plain and heeled, wools 0 and 3. */
    private static int alike(String expr) {
        return CHECK.of("plain 0 0 1 9 20;heeled 9 3 30 0 0;alike " + expr + ";").alike(0, 1);
    }

    private static void levels() {
        CHECK.terms("EXPR: AND ('or' AND)*. AND: NOT ('and' NOT)*.");
        CHECK.same("one alone stays as it is", alike("7"), 7);
        CHECK.same("one below 0 too", alike("0-7"), -7);
        CHECK.same("in parentheses too", alike("((0-7))"), -7);
        CHECK.same("or behind and", alike("1 or 0 and 0"), 1);
        CHECK.same("and ahead of or", alike("0 and 0 or 1"), 1);
        CHECK.same("parentheses first", alike("0 and (0 or 1)"), 0);
        CHECK.same("many of or", alike("0 or 0 or 0 or 5"), 1);
        CHECK.same("many of and", alike("5 and 6 and 7 and 0"), 0);
        CHECK.terms("NOT: 'not' NOT | SUM [('<' | '=') SUM]");
        CHECK.same("not of a whole test", alike("not 1=1"), 0);
        CHECK.same("not of a sum", alike("not 1-1"), 1);
        CHECK.same("not of one of and", alike("not 1 and 0"), 0);
        CHECK.same("not of one of or", alike("not 1 or 1"), 1);
        CHECK.same("a test of products", alike("2*3<7*1"), 1);
        CHECK.same("a test in a sum", alike("5+(1<2)"), 6);
        CHECK.terms("From the left");
        CHECK.same("10-4-3", alike("10-4-3"), 3);
        CHECK.same("10-4+3", alike("10-4+3"), 9);
        CHECK.same("100/7/2", alike("100/7/2"), 7);
        CHECK.same("7/2*2", alike("7/2*2"), 6);
        CHECK.same("2*7/4", alike("2*7/4"), 3);
        CHECK.same("1+2*3-4/2", alike("1+2*3-4/2"), 5);
    }

    private static void wrapping() {
        CHECK.terms("ints that wrap");
        String least = "2048*1024*1024";
        String most = "(2048*1024*1024-1)";
        CHECK.same("the greatest", alike(most), Integer.MAX_VALUE);
        CHECK.same("one more", alike(most + "+1"), Integer.MIN_VALUE);
        CHECK.same("the least", alike(least), Integer.MIN_VALUE);
        CHECK.same("one less", alike(least + "-1"), Integer.MAX_VALUE);
        CHECK.same("0 less the least", alike("0-" + least), Integer.MIN_VALUE);
        CHECK.same("twice the greatest", alike(most + "*2"), -2);
        CHECK.same("the greatest by itself", alike(most + "*" + most), 1);
        CHECK.same("around to 0", alike("2048*1024*1024*2"), 0);
        CHECK.same("9999 four times", alike("9999*9999*9999*9999"), 9999 * 9999 * 9999 * 9999);
        CHECK.same("the least is less", alike(least + "<" + most), 1);
        CHECK.same("the greatest isn't", alike(most + "<" + least), 0);
        CHECK.same("the least by -1", alike(least + "/(0-1)"), Integer.MIN_VALUE);
        CHECK.same("more than 0 no longer", CHECK.of(TWO + "alike " + most + "+1;").person(0, 7), 0);
        CHECK.same("more than 0 still", CHECK.of(TWO + "alike " + most + ";").person(0, 7), 2);
    }

    private static void dividing() {
        CHECK.terms("/ cut down to 0, by 0 gives 0");
        CHECK.same("7/2", alike("7/2"), 3);
        CHECK.same("-7/2", alike("(0-7)/2"), -3);
        CHECK.same("7/-2", alike("7/(0-2)"), -3);
        CHECK.same("-7/-2", alike("(0-7)/(0-2)"), 3);
        CHECK.same("1/2", alike("1/2"), 0);
        CHECK.same("-1/2", alike("(0-1)/2"), 0);
        CHECK.same("6/2", alike("6/2"), 3);
        CHECK.same("7/0", alike("7/0"), 0);
        CHECK.same("-7/0", alike("(0-7)/0"), 0);
        CHECK.same("0/0", alike("0/0"), 0);
        CHECK.same("0/7", alike("0/7"), 0);
        CHECK.same("7/0 and more", alike("7/0+5"), 5);
        CHECK.same("by a value that is 0", alike("7/pattern+holes/wool"), 0);
        CHECK.same("in likes", CHECK.of("plain 0 0 1 0 0;plain 0 0 1 0 7;likes charm/own+9;").liking(0, 1), 9);
    }

    private static void truth() {
        CHECK.terms("tests, not, and, or are 1 or 0 (what isn't 0 holds)");
        CHECK.same("not 2", alike("not 2"), 0);
        CHECK.same("not -1", alike("not (0-1)"), 0);
        CHECK.same("not 0", alike("not 0"), 1);
        CHECK.same("not not 2", alike("not not 2"), 1);
        CHECK.same("2 and 4", alike("2 and 4"), 1);
        CHECK.same("-1 and -2", alike("0-1 and 0-2"), 1);
        CHECK.same("2 and 0", alike("2 and 0"), 0);
        CHECK.same("0 and 2", alike("0 and 2"), 0);
        CHECK.same("0 and 0", alike("0 and 0"), 0);
        CHECK.same("0 or 2", alike("0 or 2"), 1);
        CHECK.same("2 or 0", alike("2 or 0"), 1);
        CHECK.same("-2 or 0", alike("0-2 or 0"), 1);
        CHECK.same("2 or 4", alike("2 or 4"), 1);
        CHECK.same("0 or 0", alike("0 or 0"), 0);
        CHECK.same("1<2", alike("1<2"), 1);
        CHECK.same("2<2", alike("2<2"), 0);
        CHECK.same("3<2", alike("3<2"), 0);
        CHECK.same("2=2", alike("2=2"), 1);
        CHECK.same("2=3", alike("2=3"), 0);
        CHECK.same("3=2", alike("3=2"), 0);
        CHECK.same("the least isn't 0", alike("not 2048*1024*1024"), 0);
    }

    private static void valuesOfAlike() {
        CHECK.terms("VALUES of ALIKE, for two of PEOPLE");
        CHECK.same("colours at most", alike("colours"), 9);
        CHECK.same("sizes at most", alike("sizes"), 29);
        CHECK.same("holes at most", alike("holes"), 9);
        CHECK.same("worn", alike("worn"), 9);
        CHECK.same("pattern", alike("pattern"), 0);
        CHECK.same("wool", alike("wool"), 0);
        CHECK.same("plain", alike("plain"), 1);
        SockFair same = CHECK.of("plain 9 3 30 9 0;plain 9 3 30 9 0;alike colours+sizes+holes+worn*100+pattern*10+wool*5+plain*2000;");
        CHECK.same("of like ones", same.alike(0, 1), 1800 + 10 + 5 + 4000);
        SockFair least = CHECK.of("heeled 0 3 1 0 0;argyle 0 0 1 0 0;alike colours+sizes+holes+worn+pattern+wool+plain;");
        CHECK.same("all 0", least.alike(0, 1), 0);
        SockFair other = CHECK.of("heeled 0 0 1 0 0;heeled 0 3 1 0 0;alike pattern*10+plain;");
        CHECK.same("of one pattern, not plain", other.alike(0, 1), 10);
        CHECK.same("how far, from either side", alike("colours*100+sizes"), CHECK.of(
            "heeled 9 3 30 0 0;plain 0 0 1 9 20;alike colours*100+sizes;").alike(0, 1));
    }

    private static void valuesOfLikes() {
        CHECK.terms("of LIKES, for one and another one");
        String both = "plain 0 0 1 9 20;heeled 9 3 30 0 0;";
        String[] values = {"alike", "charm", "own", "size", "holes"};
        // Without a rule 10 - 9 - 29 - 9.
        int[] oneWay = {-37, 0, 20, 30, 0};
        int[] otherWay = {-37, 20, 0, 1, 9};
        for (int i = 0; i < values.length; i++) {
            SockFair x = CHECK.of(both + "likes " + values[i] + ";");
            CHECK.same(values[i], x.liking(0, 1), oneWay[i]);
            CHECK.same(values[i] + " the other way", x.liking(1, 0), otherWay[i]);
        }
        SockFair x = CHECK.of(both + "likes alike*10;alike worn;");
        CHECK.same("what ALIKE gives", x.liking(0, 1), 90);
        SockFair y = CHECK.of(both + "alike 2048*1024*1024;likes alike-1;");
        CHECK.same("wraps", y.liking(0, 1), Integer.MAX_VALUE);
    }
}
