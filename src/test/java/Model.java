import java.util.ArrayList;
import java.util.Arrays;
import java.util.HashSet;
import java.util.List;
import java.util.NoSuchElementException;
import java.util.Set;
import java.util.function.IntBinaryOperator;
import java.util.function.ToIntFunction;

/**
 * The document once more, as plainly as it can be written and as slowly as it likes: nothing is kept
 * between calls but what the document names, everything is tried out one by one. ModelTest runs it
 * beside SockFair.
 */
final class Model {
    static final int NONE = -1;

    /** One state of PEOPLE; copied freely. */
    private static final class State {
        int year;
        int[] colour;
        int[] holes;
        int[] mate;

        State copy() {
            State s = new State();
            s.year = year;
            s.colour = colour.clone();
            s.holes = holes.clone();
            s.mate = mate.clone();
            return s;
        }
    }

    /** A sock for which ALIKE is asked. */
    private record Sock(int colour, int pattern, int wool, int size, int holes) { }

    /** What a VALUE may look at. */
    private record Pair(Sock one, Sock other, int charm, int own, int alike) { }

    private interface Expr extends ToIntFunction<Pair> { }

    private record Sight(int person, int fairs, int other) { }

    private record Image(State state, List<State> acts, List<Sight> seen) { }

    private static final class Fault extends Exception {
        private static final long serialVersionUID = 1L;
        final int code;
        final int place;

        Fault(int code, int place) {
            this.code = code;
            this.place = place;
        }
    }

    private final List<Byte> tape = new ArrayList<>();
    private int faultPlace = NONE;
    private final int[] status = new int[3];
    private int n;
    private List<int[]> told = new ArrayList<>(); // pattern, colour, wool, size, holes, charm
    private Expr alikeRule;
    private Expr likesRule;
    private State now;
    private List<State> acts = new ArrayList<>();
    private List<Sight> seen = new ArrayList<>();
    private Image image;

    Model() {
        now = new State();
        now.colour = new int[0];
        now.holes = new int[0];
        now.mate = new int[0];
    }

    // ---------------------------------------------------------------- the text

    int feed(int a, int b, int c, int d, int e) {
        if (tape.size() + 20 > 700) {
            return NONE;
        }
        for (int number : new int[] {a, b, c, d, e}) {
            for (int i = 0; i < 4; i++) {
                tape.add((byte) (number >>> (24 - 8 * i)));
            }
        }
        return tape.size();
    }

    int fair(int many) {
        if (many < 0 || many > tape.size()) {
            throw new IllegalArgumentException();
        }
        StringBuilder text = new StringBuilder();
        for (int i = 0; i < many; i++) {
            text.append((char) (tape.get(i) & 255));
        }
        tape.clear();
        try {
            Parse parse = new Parse(text.toString());
            parse.all();
            n = parse.people.size();
            told = parse.people;
            alikeRule = parse.alike;
            likesRule = parse.likes;
            now = new State();
            now.colour = new int[n];
            now.holes = new int[n];
            now.mate = new int[n];
            for (int i = 0; i < n; i++) {
                now.colour[i] = told.get(i)[1];
                now.holes[i] = told.get(i)[4];
                now.mate[i] = parse.mates.get(i);
            }
            acts = new ArrayList<>();
            seen = new ArrayList<>();
            image = null;
            faultPlace = NONE;
            return 0;
        } catch (Fault f) {
            faultPlace = f.place;
            status[0]++;
            return f.code;
        }
    }

    int fault() {
        return faultPlace;
    }

    /** Splits the text into tokens first, then goes along them. */
    private static final class Parse {
        final List<String> tokens = new ArrayList<>();
        final List<Integer> places = new ArrayList<>();
        int at;
        final List<int[]> people = new ArrayList<>();
        final List<Integer> mates = new ArrayList<>();
        Expr alike;
        Expr likes;
        boolean inAlike;

        Parse(String text) {
            int i = 0;
            while (i < text.length()) {
                char c = text.charAt(i);
                int from = i;
                if (c == ' ' || c == '\n') {
                    i++;
                    continue;
                }
                if (c >= 'a' && c <= 'z') {
                    while (i < text.length() && text.charAt(i) >= 'a' && text.charAt(i) <= 'z') {
                        i++;
                    }
                } else if (c >= '0' && c <= '9') {
                    while (i < text.length() && text.charAt(i) >= '0' && text.charAt(i) <= '9') {
                        i++;
                    }
                } else {
                    i++;
                }
                tokens.add(text.substring(from, i));
                places.add(from);
            }
            tokens.add("");
            places.add(text.length());
        }

        String token() {
            return tokens.get(at);
        }

        Fault wrong(int code) {
            return new Fault(code, places.get(at));
        }

        boolean isNumber() {
            return token().matches("[0-9]+");
        }

        boolean isWord() {
            return token().matches("[a-z]+");
        }

        void all() throws Fault {
            while (!token().isEmpty()) {
                line();
                take(";");
            }
        }

        void take(String sign) throws Fault {
            if (!token().equals(sign)) {
                throw wrong(1);
            }
            at++;
        }

        void line() throws Fault {
            int pattern = Arrays.asList("plain", "striped", "argyle", "heeled").indexOf(token());
            if (pattern >= 0) {
                if (people.size() == 10) {
                    throw wrong(2);
                }
                at++;
                int colour = number(0, 9);
                int wool = number(0, 3);
                int size = number(1, 30);
                int holes = number(0, 9);
                int charm = number(0, 20);
                people.add(new int[] {pattern, colour, wool, size, holes, charm});
                mates.add(NONE);
            } else if (token().equals("bound")) {
                at++;
                int one = person();
                if (mates.get(one) != NONE) {
                    throw wrong(4);
                }
                at++;
                int other = person();
                if (one == other || mates.get(other) != NONE) {
                    throw wrong(4);
                }
                at++;
                mates.set(one, other);
                mates.set(other, one);
            } else if (token().equals("alike")) {
                if (alike != null) {
                    throw wrong(5);
                }
                at++;
                inAlike = true;
                alike = expr(0);
            } else if (token().equals("likes")) {
                if (likes != null) {
                    throw wrong(5);
                }
                at++;
                inAlike = false;
                likes = expr(0);
            } else {
                throw wrong(1);
            }
        }

        int number(int low, int high) throws Fault {
            if (!isNumber()) {
                throw wrong(1);
            }
            if (token().length() > 4 || Integer.parseInt(token()) < low || Integer.parseInt(token()) > high) {
                throw wrong(2);
            }
            return Integer.parseInt(tokens.get(at++));
        }

        int person() throws Fault {
            if (!isNumber()) {
                throw wrong(1);
            }
            if (token().length() > 4) {
                throw wrong(2);
            }
            if (Integer.parseInt(token()) >= people.size()) {
                throw wrong(3);
            }
            return Integer.parseInt(token());
        }

        Expr expr(int within) throws Fault {
            if (within == 6 && (isNumber() || isWord() || token().equals("("))) {
                throw wrong(2);
            }
            Expr left = and(within);
            while (token().equals("or")) {
                at++;
                left = join(left, and(within), (a, b) -> a != 0 | b != 0 ? 1 : 0);
            }
            return left;
        }

        Expr and(int within) throws Fault {
            Expr left = not(within, 0);
            while (token().equals("and")) {
                at++;
                left = join(left, not(within, 0), (a, b) -> a != 0 & b != 0 ? 1 : 0);
            }
            return left;
        }

        Expr not(int within, int nots) throws Fault {
            if (token().equals("not")) {
                if (nots == 6) {
                    throw wrong(2);
                }
                at++;
                Expr inner = not(within, nots + 1);
                return p -> inner.applyAsInt(p) == 0 ? 1 : 0;
            }
            Expr left = sum(within);
            if (token().equals("<")) {
                at++;
                return join(left, sum(within), (a, b) -> a < b ? 1 : 0);
            }
            if (token().equals("=")) {
                at++;
                return join(left, sum(within), (a, b) -> a == b ? 1 : 0);
            }
            return left;
        }

        Expr sum(int within) throws Fault {
            Expr left = product(within);
            while (token().equals("+") || token().equals("-")) {
                boolean plus = tokens.get(at++).equals("+");
                left = join(left, product(within), plus ? (a, b) -> a + b : (a, b) -> a - b);
            }
            return left;
        }

        Expr product(int within) throws Fault {
            Expr left = part(within);
            while (token().equals("*") || token().equals("/")) {
                boolean times = tokens.get(at++).equals("*");
                left = join(left, part(within), times ? (a, b) -> a * b : (a, b) -> b == 0 ? 0 : a / b);
            }
            return left;
        }

        Expr part(int within) throws Fault {
            if (isNumber()) {
                if (token().length() > 4) {
                    throw wrong(2);
                }
                int number = Integer.parseInt(tokens.get(at++));
                return p -> number;
            }
            if (token().equals("(")) {
                at++;
                Expr inner = expr(within + 1);
                take(")");
                return inner;
            }
            if (!isWord()) {
                throw wrong(1);
            }
            Expr value = inAlike ? alikeValue(token()) : likesValue(token());
            if (value == null) {
                throw wrong(3);
            }
            at++;
            return value;
        }

        static Expr join(Expr left, Expr right, IntBinaryOperator how) {
            return p -> how.applyAsInt(left.applyAsInt(p), right.applyAsInt(p));
        }

        static Expr alikeValue(String word) {
            switch (word) {
                case "colours": return p -> Math.abs(p.one.colour - p.other.colour);
                case "sizes": return p -> Math.abs(p.one.size - p.other.size);
                case "holes": return p -> Math.abs(p.one.holes - p.other.holes);
                case "worn": return p -> p.one.holes + p.other.holes;
                case "pattern": return p -> p.one.pattern == p.other.pattern ? 1 : 0;
                case "wool": return p -> p.one.wool == p.other.wool ? 1 : 0;
                case "plain": return p -> (p.one.pattern == 0 ? 1 : 0) + (p.other.pattern == 0 ? 1 : 0);
                default: return null;
            }
        }

        static Expr likesValue(String word) {
            switch (word) {
                case "alike": return p -> p.alike;
                case "charm": return p -> p.charm;
                case "own": return p -> p.own;
                case "size": return p -> p.other.size;
                case "holes": return p -> p.other.holes;
                default: return null;
            }
        }
    }

    // ---------------------------------------------------------------- ALIKE, LIKING, FAIRS

    private Sock sock(State s, int p) {
        return new Sock(s.colour[p], told.get(p)[0], told.get(p)[2], told.get(p)[3], s.holes[p]);
    }

    private int alikeOf(Sock one, Sock other) {
        if (alikeRule != null) {
            return alikeRule.applyAsInt(new Pair(one, other, 0, 0, 0));
        }
        return 10 - Math.abs(one.colour - other.colour) - Math.abs(one.size - other.size)
            - Math.abs(one.holes - other.holes) + (one.pattern == other.pattern ? 5 : 0);
    }

    private int alikeIn(State s, int p, int q) {
        return alikeOf(sock(s, Math.min(p, q)), sock(s, Math.max(p, q)));
    }

    private boolean may(State s, int p, int q) {
        return p != q && alikeIn(s, p, q) > 0;
    }

    private int likingIn(State s, int p, int q) {
        int alike = alikeIn(s, p, q);
        int charm = told.get(q)[5];
        if (likesRule != null) {
            return likesRule.applyAsInt(new Pair(sock(s, p), sock(s, q), charm, told.get(p)[5], alike));
        }
        return alike + charm;
    }

    private void bindAll(State s) {
        while (true) {
            int[] top = null;
            for (int p = 0; p < n; p++) {
                for (int q = p + 1; q < n; q++) {
                    if (s.mate[p] == NONE && s.mate[q] == NONE && may(s, p, q)
                        && (top == null || alikeIn(s, p, q) > alikeIn(s, top[0], top[1]))) {
                        top = new int[] {p, q};
                    }
                }
            }
            if (top == null) {
                return;
            }
            s.mate[top[0]] = top[1];
            s.mate[top[1]] = top[0];
        }
    }

    /** Holds one FAIR: how many couples were parted. */
    private int oneFair(State s) {
        bindAll(s);
        int parted = 0;
        for (int p = 0; p < n; p++) {
            s.holes[p] = Math.min(9, s.holes[p] + 1);
        }
        for (int p = 0; p < n; p++) {
            if (s.holes[p] == 9 && s.mate[p] != NONE) {
                s.mate[s.mate[p]] = NONE;
                s.mate[p] = NONE;
                parted++;
            }
        }
        s.year++;
        return parted;
    }

    private State after(State from, int fairs) {
        State s = from.copy();
        for (int i = 0; i < fairs; i++) {
            oneFair(s);
        }
        return s;
    }

    private int couplesIn(State s) {
        int bound = 0;
        for (int p = 0; p < n; p++) {
            bound += s.mate[p] != NONE ? 1 : 0;
        }
        return bound / 2;
    }

    // ---------------------------------------------------------------- what stands

    private void who(int person) {
        if (person < 0 || person >= n) {
            throw new NoSuchElementException();
        }
    }

    private void what(int what, int most) {
        if (what < 0 || what > most) {
            throw new NoSuchElementException();
        }
    }

    int count(int what) {
        what(what, 10);
        int result = 0;
        switch (what) {
            case 0: return n;
            case 1: return now.year;
            case 2:
                for (int p = 0; p < n; p++) {
                    result += now.mate[p] != NONE ? 1 << p : 0;
                }
                return result;
            case 3: return Arrays.stream(now.holes).sum();
            case 4:
                for (int p = 0; p < n; p++) {
                    for (int q = 0; q < p; q++) {
                        result += may(now, p, q) ? 1 : 0;
                    }
                }
                return result;
            case 5: return acts.size();
            case 6: return seen.size();
            case 7: return tape.size();
            default: return status[what - 8];
        }
    }

    int person(int person, int what) {
        who(person);
        what(what, 8);
        int bits = 0;
        switch (what) {
            case 0: return now.colour[person];
            case 1: return told.get(person)[0];
            case 2: return told.get(person)[2];
            case 3: return told.get(person)[3];
            case 4: return now.holes[person];
            case 5: return told.get(person)[5];
            case 6: return now.mate[person];
            case 7:
                for (int q = 0; q < n; q++) {
                    bits |= may(now, person, q) ? 1 << q : 0;
                }
                return bits;
            default:
                for (int q = 0; q < n; q++) {
                    bits |= rather(person, q) ? 1 << q : 0;
                }
                return bits;
        }
    }

    private boolean rather(int p, int q) {
        return may(now, p, q)
            && (now.mate[p] == NONE || likingIn(now, p, q) > likingIn(now, p, now.mate[p]));
    }

    int alike(int person, int other) {
        who(person);
        who(other);
        return alikeIn(now, person, other);
    }

    int liking(int person, int other) {
        who(person);
        who(other);
        return likingIn(now, person, other);
    }

    // ---------------------------------------------------------------- ACTS

    private void act() {
        acts.add(now.copy());
        if (acts.size() > 40) {
            acts.remove(0);
        }
    }

    int hold(int many) {
        if (many < 1 || many > 20 || now.year + many > 999) {
            status[1]++;
            return NONE;
        }
        act();
        now = after(now, many);
        return now.year;
    }

    int dye(int person, int colour) {
        who(person);
        if (colour < 0 || colour > 9) {
            status[1]++;
            return NONE;
        }
        act();
        int was = now.colour[person];
        now.colour[person] = colour;
        return was;
    }

    int darn(int person, int holes) {
        who(person);
        if (holes < 1 || holes > 9) {
            status[1]++;
            return NONE;
        }
        act();
        now.holes[person] = Math.max(0, now.holes[person] - holes);
        return now.holes[person];
    }

    int unravel(int person) {
        who(person);
        int other = now.mate[person];
        if (other == NONE) {
            status[1]++;
            return NONE;
        }
        act();
        now.mate[person] = NONE;
        now.mate[other] = NONE;
        return other;
    }

    int bind(int person, int other) {
        who(person);
        who(other);
        if (person == other || now.mate[person] != NONE || now.mate[other] != NONE) {
            status[1]++;
            return 0;
        }
        act();
        now.mate[person] = other;
        now.mate[other] = person;
        return 1;
    }

    int undo() {
        if (acts.isEmpty()) {
            return NONE;
        }
        now = acts.remove(acts.size() - 1);
        return acts.size();
    }

    // ---------------------------------------------------------------- from now on

    private void upTo30(int fairs) {
        if (fairs < 0 || fairs > 30) {
            throw new IllegalArgumentException();
        }
    }

    int then(int person, int fairs) {
        who(person);
        upTo30(fairs);
        return after(now, fairs).mate[person];
    }

    int when(int person) {
        who(person);
        for (int i = 0; i <= 30; i++) {
            if (after(now, i).mate[person] != NONE) {
                return i;
            }
        }
        return NONE;
    }

    int worn(int person) {
        who(person);
        for (int i = 0;; i++) {
            if (after(now, i).holes[person] == 9) {
                return i;
            }
        }
    }

    int couples(int fairs) {
        upTo30(fairs);
        return couplesIn(after(now, fairs));
    }

    int single(int fairs) {
        upTo30(fairs);
        State s = after(now, fairs);
        int bits = 0;
        for (int p = 0; p < n; p++) {
            bits |= s.mate[p] == NONE ? 1 << p : 0;
        }
        return bits;
    }

    int lasts(int person) {
        who(person);
        if (now.mate[person] == NONE) {
            return NONE;
        }
        for (int i = 1; i <= 30; i++) {
            if (after(now, i).mate[person] != now.mate[person]) {
                return i;
            }
        }
        return NONE;
    }

    // ---------------------------------------------------------------- couples

    int closest() {
        int best = NONE;
        for (int p = n - 2; p >= 0; p--) {
            for (int q = n - 1; q > p; q--) {
                if (best == NONE || alikeIn(now, p, q) >= alikeIn(now, best / 10, best % 10)) {
                    best = 10 * p + q;
                }
            }
        }
        return best;
    }

    int lonely() {
        int bits = 0;
        for (int p = 0; p < n; p++) {
            bits |= person(p, 7) == 0 ? 1 << p : 0;
        }
        return bits;
    }

    int faithful() {
        int many = 0;
        for (int p = 0; p < n; p++) {
            int q = now.mate[p];
            if (q > p) {
                boolean calm = true;
                for (int r = 0; r < n; r++) {
                    calm &= !(rather(p, r) && rather(r, p)) && !(rather(q, r) && rather(r, q));
                }
                many += calm ? 1 : 0;
            }
        }
        return many;
    }

    /** All rows in which some who aren't bound, and MAY be, are bound. */
    private List<int[]> rows(State s) {
        List<int[]> all = new ArrayList<>();
        int[] row = new int[n];
        Arrays.fill(row, NONE);
        rows(s, 0, row, all);
        return all;
    }

    private void rows(State s, int p, int[] row, List<int[]> all) {
        if (p == n) {
            all.add(row.clone());
            return;
        }
        rows(s, p + 1, row, all);
        for (int q = p + 1; q < n && row[p] == NONE && s.mate[p] == NONE; q++) {
            if (row[q] == NONE && s.mate[q] == NONE && may(s, p, q)) {
                row[p] = q;
                row[q] = p;
                rows(s, p + 1, row, all);
                row[p] = NONE;
                row[q] = NONE;
            }
        }
    }

    private static int pairs(int[] row) {
        return (int) Arrays.stream(row).filter(q -> q != NONE).count() / 2;
    }

    /** Whether a row comes ahead of another one: nobody is behind all. */
    private static boolean ahead(int[] row, int[] other) {
        for (int p = 0; p < row.length; p++) {
            int a = row[p] == NONE ? 99 : row[p];
            int b = other[p] == NONE ? 99 : other[p];
            if (a != b) {
                return a < b;
            }
        }
        return false;
    }

    private int[] mostRow(State s) {
        int[] best = null;
        for (int[] row : rows(s)) {
            if (best == null || pairs(row) > pairs(best) || pairs(row) == pairs(best) && ahead(row, best)) {
                best = row;
            }
        }
        return best;
    }

    int most(int person) {
        if (person != NONE) {
            who(person);
        }
        int[] best = mostRow(now);
        return person == NONE ? pairs(best) : best[person];
    }

    long best() {
        long best = 0;
        for (int[] row : rows(now)) {
            long sum = 0;
            for (int p = 0; p < n; p++) {
                sum += row[p] > p ? alikeIn(now, p, row[p]) : 0;
            }
            best = Math.max(best, sum);
        }
        return best;
    }

    private List<int[]> restRows() {
        List<int[]> rests = new ArrayList<>();
        int[][] like = new int[n][n];
        boolean[][] may = new boolean[n][n];
        for (int p = 0; p < n; p++) {
            for (int q = 0; q < n; q++) {
                like[p][q] = likingIn(now, p, q);
                may[p][q] = may(now, p, q);
            }
        }
        for (int[] row : rows(now)) {
            boolean calm = true;
            for (int p = 0; p < n; p++) {
                for (int q = p + 1; q < n; q++) {
                    if (now.mate[p] == NONE && now.mate[q] == NONE && may[p][q] && row[p] != q) {
                        boolean pLeaves = row[p] == NONE || like[p][q] > like[p][row[p]];
                        boolean qLeaves = row[q] == NONE || like[q][p] > like[q][row[q]];
                        calm &= !(pLeaves && qLeaves);
                    }
                }
            }
            if (calm) {
                rests.add(row);
            }
        }
        return rests;
    }

    int rests(int person) {
        if (person != NONE) {
            who(person);
        }
        List<int[]> rests = restRows();
        if (person == NONE) {
            return rests.size();
        }
        int[] first = null;
        for (int[] row : rests) {
            if (first == null || ahead(row, first)) {
                first = row;
            }
        }
        return first == null ? NONE : first[person];
    }

    int mates(int person) {
        who(person);
        int bits = 0;
        for (int[] row : restRows()) {
            bits |= row[person] == NONE ? 0 : 1 << row[person];
        }
        return bits;
    }

    int colour(int what) {
        what(what, 1);
        int best = NONE;
        int many = NONE;
        for (int c = 0; c < 10; c++) {
            State s = now.copy();
            Arrays.fill(s.colour, c);
            int here = pairs(mostRow(s));
            if (here > many) {
                many = here;
                best = c;
            }
        }
        return what == 0 ? best : many;
    }

    // ---------------------------------------------------------------- dyeing, darning, knitting

    int way(int person, int other, int what) {
        who(person);
        who(other);
        what(what, 1);
        if (person == other || now.mate[person] != NONE || now.mate[other] != NONE) {
            return NONE;
        }
        int least = NONE;
        int first = NONE;
        for (int c = 0; c < 10; c++) {
            for (int d = 0; d <= now.holes[person]; d++) {
                State s = now.copy();
                s.colour[person] = c;
                s.holes[person] -= d;
                bindAll(s);
                int cost = (c == now.colour[person] ? 0 : 3) + d;
                if (s.mate[person] == other && (least == NONE || cost < least)) {
                    least = cost;
                    first = 10 * c + d;
                }
            }
        }
        return what == 0 ? least : first;
    }

    int knit(int person) {
        who(person);
        for (int size = 1; size <= 30; size++) {
            for (int c = 0; c < 10; c++) {
                for (int pattern = 0; pattern < 4; pattern++) {
                    for (int wool = 0; wool < 4; wool++) {
                        Sock knit = new Sock(c, pattern, wool, size, 0);
                        boolean good = true;
                        for (int p = 0; p < n && good; p++) {
                            good = alikeOf(sock(now, p), knit) > 0 == (p == person);
                        }
                        if (good) {
                            return 10000 * size + 100 * c + 10 * pattern + wool;
                        }
                    }
                }
            }
        }
        return NONE;
    }

    int darner() {
        int most = couples(5);
        int darner = NONE;
        for (int p = 0; p < n; p++) {
            State s = now.copy();
            s.holes[p] = 0;
            int many = couplesIn(after(s, 5));
            if (many > most) {
                most = many;
                darner = p;
            }
        }
        return darner;
    }

    // ---------------------------------------------------------------- SEEN

    int see(int person, int fairs, int other) {
        who(person);
        if (other != NONE) {
            who(other);
        }
        if (seen.size() == 8 || fairs < 1 || fairs > 20 || person == other) {
            status[2]++;
            return NONE;
        }
        seen.add(new Sight(person, fairs, other));
        return seen.size();
    }

    void forget() {
        seen = new ArrayList<>();
    }

    private boolean asSeen(State s) {
        for (Sight sight : seen) {
            if (after(s, sight.fairs).mate[sight.person] != sight.other) {
                return false;
            }
        }
        return true;
    }

    private List<State> dyedStates() {
        List<State> all = new ArrayList<>();
        for (int p = 0; p < n; p++) {
            for (int c = 0; c < 10; c++) {
                State s = now.copy();
                s.colour[p] = c;
                if (c != now.colour[p] && asSeen(s)) {
                    all.add(s);
                }
            }
        }
        return all;
    }

    int dyed(int what) {
        what(what, 2);
        if (what == 2) {
            return asSeen(now) ? 1 : 0;
        }
        List<State> all = dyedStates();
        if (what == 0) {
            return all.size();
        }
        for (int p = 0; p < n && !all.isEmpty(); p++) {
            if (all.get(0).colour[p] != now.colour[p]) {
                return 10 * p + all.get(0).colour[p];
            }
        }
        return NONE;
    }

    int next(int what) {
        what(what, 1);
        List<State> all = dyedStates();
        int fair = NONE;
        int most = 0;
        for (int i = 1; i <= 20; i++) {
            Set<String> rows = new HashSet<>();
            for (State s : all) {
                oneFair(s);
                rows.add(Arrays.toString(s.mate));
            }
            if (rows.size() > most) {
                most = rows.size();
                fair = i;
            }
        }
        return what == 0 ? fair : most;
    }

    // ---------------------------------------------------------------- the basket, games, rings, generations

    private static final int[][] BASKETS = new int[10][];

    /** By trying all orders. */
    private static int[] basketOf(int socks) {
        if (BASKETS[socks] == null) {
            int[] good = new int[socks];
            int[] order = new int[socks];
            boolean[] used = new boolean[socks];
            orders(0, order, used, good);
            int best = 0;
            for (int k = 1; k < socks; k++) {
                best = good[k] > good[best] ? k : best;
            }
            int all = 1;
            for (int i = 2; i <= socks; i++) {
                all *= i;
            }
            int upper = good[best];
            int lower = all;
            for (int d = 2; d <= upper; d++) {
                while (upper % d == 0 && lower % d == 0) {
                    upper /= d;
                    lower /= d;
                }
            }
            BASKETS[socks] = new int[] {best, upper, lower};
        }
        return BASKETS[socks];
    }

    private static void orders(int at, int[] order, boolean[] used, int[] good) {
        int m = order.length;
        if (at == m) {
            for (int k = 0; k < m; k++) {
                int best = -1;
                for (int i = 0; i < k; i++) {
                    best = Math.max(best, order[i]);
                }
                int taken = order[m - 1];
                for (int i = m - 1; i >= k; i--) {
                    taken = order[i] > best ? order[i] : taken;
                }
                good[k] += taken == m - 1 ? 1 : 0;
            }
            return;
        }
        for (int i = 0; i < m; i++) {
            if (!used[i]) {
                used[i] = true;
                order[at] = i;
                orders(at + 1, order, used, good);
                used[i] = false;
            }
        }
    }

    int basket(int socks, int what) {
        what(what, 2);
        if (socks < 1 || socks > 9) {
            throw new IllegalArgumentException();
        }
        return basketOf(socks)[what];
    }

    int game(int person, int other, int what) {
        who(person);
        who(other);
        what(what, 1);
        if (person == other) {
            throw new IllegalArgumentException();
        }
        int[][] one = new int[2][2];
        int[][] two = new int[2][2];
        for (int a = 0; a < 2; a++) {
            for (int b = 0; b < 2; b++) {
                State s = now.copy();
                s.holes[person] = a == 1 ? 0 : s.holes[person];
                s.holes[other] = b == 1 ? 0 : s.holes[other];
                int gain = Math.max(0, alikeIn(s, person, other));
                one[a][b] = gain - (b == 1 ? now.holes[other] / 2 : 0) - a;
                two[a][b] = gain - (a == 1 ? now.holes[person] / 2 : 0) - b;
            }
        }
        List<Integer> rests = new ArrayList<>();
        for (int a = 0; a < 2; a++) {
            for (int b = 0; b < 2; b++) {
                if (one[1 - a][b] <= one[a][b] && two[a][1 - b] <= two[a][b]) {
                    rests.add(10 * a + b);
                }
            }
        }
        return what == 0 ? rests.size() : rests.isEmpty() ? NONE : rests.get(0);
    }

    /** The fewest steps, at least one, between all two. */
    private int[][] steps(boolean[][] edge) {
        int[][] d = new int[n][n];
        for (int p = 0; p < n; p++) {
            for (int q = 0; q < n; q++) {
                d[p][q] = edge[p][q] ? 1 : 1000;
            }
        }
        for (int r = 0; r < n; r++) {
            for (int p = 0; p < n; p++) {
                for (int q = 0; q < n; q++) {
                    d[p][q] = Math.min(d[p][q], d[p][r] + d[r][q]);
                }
            }
        }
        return d;
    }

    int ring() {
        boolean[][] edge = new boolean[n][n];
        for (int p = 0; p < n; p++) {
            for (int q = 0; q < n; q++) {
                edge[p][q] = rather(p, q);
            }
        }
        int[][] d = steps(edge);
        int least = 1000;
        for (int p = 0; p < n; p++) {
            least = Math.min(least, d[p][p]);
        }
        return least == 1000 ? NONE : least;
    }

    private int[][] mayDistances() {
        boolean[][] edge = new boolean[n][n];
        for (int p = 0; p < n; p++) {
            for (int q = 0; q < n; q++) {
                edge[p][q] = may(now, p, q);
            }
        }
        return steps(edge);
    }

    int far(int person, int other) {
        who(person);
        who(other);
        int d = person == other ? 0 : mayDistances()[person][other];
        return d >= 1000 ? NONE : d;
    }

    int circles() {
        int[][] d = mayDistances();
        int circles = 0;
        for (int p = 0; p < n; p++) {
            boolean first = true;
            for (int q = 0; q < p; q++) {
                first &= d[p][q] >= 1000;
            }
            circles += first ? 1 : 0;
        }
        return circles;
    }

    int generations(int seed, int many, int what) {
        what(what, 2);
        if (many < 0 || many > 60) {
            throw new IllegalArgumentException();
        }
        State s = now.copy();
        int[] chance = {seed};
        int parted = 0;
        for (int i = 0; i < many && n > 0; i++) {
            int who = draw(chance, n);
            int event = draw(chance, 4);
            if (event == 0) {
                s.holes[who] = Math.min(9, s.holes[who] + 3);
            }
            if (event == 1 && s.mate[who] != NONE) {
                s.mate[s.mate[who]] = NONE;
                s.mate[who] = NONE;
            }
            if (event == 2) {
                s.colour[who] = draw(chance, 10);
                s.holes[who] = 0;
            }
            parted += oneFair(s);
        }
        return what == 0 ? 2 * couplesIn(s) : what == 1 ? parted : Arrays.stream(s.holes).sum();
    }

    private static int draw(int[] chance, int of) {
        chance[0] = chance[0] * 1103515245 + 12345;
        return ((chance[0] & 0x7fffffff) >> 16) % of;
    }

    // ---------------------------------------------------------------- the image

    private static List<State> copies(List<State> states) {
        List<State> all = new ArrayList<>();
        states.forEach(s -> all.add(s.copy()));
        return all;
    }

    void image() {
        image = new Image(now.copy(), copies(acts), new ArrayList<>(seen));
    }

    int restore() {
        if (image == null) {
            return 0;
        }
        now = image.state.copy();
        acts = copies(image.acts);
        seen = new ArrayList<>(image.seen);
        return 1;
    }
}
