import java.util.NoSuchElementException;

/**
 * Odd socks marry at fairs in Lent. The document ../shared/DOC.md says what each call promises;
 * words in capitals here are its words.
 */
public final class SockFair {
    public static final int NONE = -1;

    private static final int PEOPLE_MOST = 10;
    private static final int TAPE_MOST = 700;
    private static final int COLOURS = 10;
    private static final int PATTERNS = 4;
    private static final int WOOLS = 4;
    private static final int SIZE_MOST = 30;
    private static final int HOLES_MOST = 9;
    private static final int CHARM_MOST = 20;
    private static final int YEAR_MOST = 999;
    private static final int HELD_MOST = 20;
    private static final int FORESEEN_MOST = 30;
    private static final int ACTS_MOST = 40;
    private static final int SEEN_MOST = 8;
    private static final int SEEN_FAIRS_MOST = 20;
    private static final int BASKET_MOST = 9;
    private static final int GENERATIONS_MOST = 60;
    private static final int DARNER_FAIRS = 5;
    private static final int DYE_COST = 3;

    // Behind 9 FAIRS every SOCK is worn through and nobody is bound: so 8 FAIRS are all that is ever walked.
    private static final int WALK_MOST = 8;

    // What ALIKE gives stands in rows of 10 by 10.
    private static final int SQUARE = PEOPLE_MOST * PEOPLE_MOST;

    // The place of a SOCK that is knit, behind all PEOPLE.
    private static final int KNIT = PEOPLE_MOST;

    private static final int REFUSED_TEXTS = 0;
    private static final int REFUSED_ACTS = 1;
    private static final int REFUSED_SEEN = 2;

    private final byte[] tape;
    private int taped;
    private int faultPlace;
    private final int[] refused;
    private final Reader reader;
    private final Told told;
    private final Told draft;
    private final Book book;
    private final Book kept;
    private boolean isKept;
    private final Socks socks;
    private final Outlook outlook;
    private final Course course;
    private final Course trial;
    private final Ties ties;
    private final Ways ways;
    private final Dyes dyes;
    private final Ages ages;

    public SockFair() {
        tape = new byte[TAPE_MOST];
        taped = 0;
        faultPlace = NONE;
        refused = new int[3];
        told = new Told(TAPE_MOST);
        draft = new Told(0);
        reader = new Reader(tape, draft);
        book = new Book();
        kept = new Book();
        isKept = false;
        socks = book.socks;
        outlook = new Outlook(told, socks);
        course = new Course(outlook);
        trial = new Course(outlook);
        ties = new Ties(outlook);
        // Both fill this row anew whenever they need it, and neither calls the other.
        long[] room = new long[1 << PEOPLE_MOST];
        ways = new Ways(ties, room);
        dyes = new Dyes(trial, book, room);
        ages = new Ages(told);
    }

    // ---- the tape, the TEXT ----

    public int feed(int a, int b, int c, int d, int e) {
        if (taped > TAPE_MOST - 20) {
            return NONE;
        }
        tapeNumber(a);
        tapeNumber(b);
        tapeNumber(c);
        tapeNumber(d);
        tapeNumber(e);
        return taped;
    }

    private void tapeNumber(int number) {
        for (int shift = 24; shift >= 0; shift -= 8) {
            if (taped < TAPE_MOST) {
                tape[taped] = (byte) (number >> shift);
                taped++;
            }
        }
    }

    public int fair(int n) throws IllegalArgumentException {
        if (n < 0 || n > taped) {
            throw new IllegalArgumentException("the tape has not so many bytes");
        }
        taped = 0;
        // Read once to see whether there is a FAULT, with which all stays; then once more, all anew.
        int code = reader.read(n, draft);
        faultPlace = code == 0 ? NONE : reader.place;
        if (code != 0) {
            refused[REFUSED_TEXTS]++;
            return code;
        }
        reader.read(n, told);
        book.startAnew(told);
        isKept = false;
        socksChanged();
        return 0;
    }

    public int fault() {
        return faultPlace;
    }

    // ---- what stands ----

    public int count(int what) throws NoSuchElementException {
        switch (what) {
            case 0: return told.people;
            case 1: return socks.year;
            case 2: return (1 << told.people) - 1 & ~freeOnes();
            case 3: return socks.allHoles();
            case 4: return knownTies().couplesThatMay();
            case 5: return book.acts;
            case 6: return book.seen;
            case 7: return taped;
            case 8: return refused[REFUSED_TEXTS];
            case 9: return refused[REFUSED_ACTS];
            case 10: return refused[REFUSED_SEEN];
            default: throw new NoSuchElementException("no such count");
        }
    }

    public int person(int person, int what) throws NoSuchElementException {
        checkPerson(person);
        switch (what) {
            case 0: return socks.colours[person];
            case 1: return told.patterns[person];
            case 2: return told.wools[person];
            case 3: return told.sizes[person];
            case 4: return socks.holes[person];
            case 5: return told.charms[person];
            case 6: return socks.mates[person];
            case 7: return knownTies().whoMay(person);
            case 8: return knownTies().ratherNow(person);
            default: throw new NoSuchElementException("no such thing of a person");
        }
    }

    public int alike(int person, int other) throws NoSuchElementException {
        checkPerson(person);
        checkPerson(other);
        return likenessShown(person, socks.holes[person], other, socks.holes[other]);
    }

    public int liking(int person, int other) throws NoSuchElementException {
        checkPerson(person);
        checkPerson(other);
        int alikeBoth = likenessShown(person, socks.holes[person], other, socks.holes[other]);
        return told.fondness(person, other, alikeBoth, socks.holes[other]);
    }

    // ---- ACTS ----

    public int hold(int many) {
        if (many < 1 || many > HELD_MOST || socks.year + many > YEAR_MOST) {
            refused[REFUSED_ACTS]++;
            return NONE;
        }
        book.keepAct();
        Course ahead = foreseen(many);
        for (int one = 0; one < told.people; one++) {
            socks.mates[one] = ahead.mateBehind(one, many);
            socks.holes[one] = Math.min(HOLES_MOST, socks.holes[one] + many);
        }
        socks.year += many;
        socksChanged();
        return socks.year;
    }

    public int dye(int person, int colour) throws NoSuchElementException {
        checkPerson(person);
        if (colour < 0 || colour >= COLOURS) {
            refused[REFUSED_ACTS]++;
            return NONE;
        }
        book.keepAct();
        int was = socks.colours[person];
        socks.colours[person] = colour;
        socksChanged();
        return was;
    }

    public int darn(int person, int holes) throws NoSuchElementException {
        checkPerson(person);
        if (holes < 1 || holes > HOLES_MOST) {
            refused[REFUSED_ACTS]++;
            return NONE;
        }
        book.keepAct();
        socks.holes[person] = Math.max(0, socks.holes[person] - holes);
        socksChanged();
        return socks.holes[person];
    }

    public int unravel(int person) throws NoSuchElementException {
        checkPerson(person);
        int other = socks.mates[person];
        if (other == NONE) {
            refused[REFUSED_ACTS]++;
            return NONE;
        }
        book.keepAct();
        socks.mates[person] = NONE;
        socks.mates[other] = NONE;
        bindingsChanged();
        return other;
    }

    public boolean bind(int person, int other) throws NoSuchElementException {
        checkPerson(person);
        checkPerson(other);
        if (!areFreeTwo(person, other)) {
            refused[REFUSED_ACTS]++;
            return false;
        }
        book.keepAct();
        socks.mates[person] = other;
        socks.mates[other] = person;
        bindingsChanged();
        return true;
    }

    public int undo() {
        if (!book.undoAct()) {
            return NONE;
        }
        socksChanged();
        return book.acts;
    }

    // ---- if only FAIRS are held ----

    public int then(int person, int fairs) throws NoSuchElementException, IllegalArgumentException {
        checkPerson(person);
        checkForeseen(fairs);
        return foreseen(fairs).mateBehind(person, fairs);
    }

    public int when(int person) throws NoSuchElementException {
        checkPerson(person);
        for (int fairs = 0; fairs <= WALK_MOST; fairs++) {
            if (foreseen(fairs).mateBehind(person, fairs) != NONE) {
                return fairs;
            }
        }
        return NONE;
    }

    public int worn(int person) throws NoSuchElementException {
        checkPerson(person);
        return HOLES_MOST - socks.holes[person];
    }

    public int couples(int fairs) throws IllegalArgumentException {
        checkForeseen(fairs);
        return foreseen(fairs).couplesBehind(fairs);
    }

    public int single(int fairs) throws IllegalArgumentException {
        checkForeseen(fairs);
        return foreseen(fairs).singleBehind(fairs);
    }

    public int lasts(int person) throws NoSuchElementException {
        checkPerson(person);
        int other = socks.mates[person];
        if (other == NONE) {
            return NONE;
        }
        // A couple stays until one of both is worn through, and is parted at the next FAIR if one is already.
        int holes = Math.max(socks.holes[person], socks.holes[other]);
        return Math.max(1, HOLES_MOST - holes);
    }

    // ---- couples ----

    public int closest() {
        return knownTies().closestCouple();
    }

    public int lonely() {
        return knownTies().whoMayNobody();
    }

    public int faithful() {
        return knownTies().faithfulCouples();
    }

    public int most(int person) throws NoSuchElementException {
        if (person != NONE) {
            checkPerson(person);
        }
        outlook.reach(1);
        int free = freeOnes();
        int many = (int) ways.fill(outlook.given, false, free);
        if (person == NONE) {
            return many;
        }
        ways.fillFirstRow(outlook.given, free);
        return ways.row[person];
    }

    public long best() {
        outlook.reach(1);
        return ways.fill(outlook.given, true, freeOnes());
    }

    public int rests(int person) throws NoSuchElementException {
        if (person != NONE) {
            checkPerson(person);
        }
        knownTies();
        ways.findRests(freeOnes());
        return person == NONE ? ways.rests : ways.firstRest[person];
    }

    public int mates(int person) throws NoSuchElementException {
        checkPerson(person);
        knownTies();
        ways.findRests(freeOnes());
        return ways.restMates[person];
    }

    public int colour(int what) throws NoSuchElementException {
        checkWhat(what, 1);
        if (what == 0) {
            // ALIKE knows only how far COLOURS are from each other: all dyed alike, every COLOUR is as good as 0.
            return 0;
        }
        outlook.fillOneColour();
        return (int) ways.fill(outlook.oneColour, false, freeOnes());
    }

    // ---- what must be dyed, darned, knit ----

    public int way(int person, int other, int what) throws NoSuchElementException {
        checkPerson(person);
        checkPerson(other);
        checkWhat(what, 1);
        if (!areFreeTwo(person, other)) {
            return NONE;
        }
        return leastWay(person, other, what);
    }

    private int leastWay(int person, int other, int what) {
        int ownColour = socks.colours[person];
        int ownHoles = socks.holes[person];
        int least = Integer.MAX_VALUE;
        int first = NONE;
        outlook.reach(1);
        for (int colour = 0; colour < COLOURS; colour++) {
            for (int darned = 0; darned <= ownHoles; darned++) {
                int cost = darned + (colour == ownColour ? 0 : DYE_COST);
                if (cost < least) {
                    socks.colours[person] = colour;
                    socks.holes[person] = ownHoles - darned;
                    outlook.figureAgain(person, 1);
                    if (trial.mateAtNextFair(person) == other) {
                        least = cost;
                        first = 10 * colour + darned;
                    }
                }
            }
        }
        socks.colours[person] = ownColour;
        socks.holes[person] = ownHoles;
        outlook.figureAgain(person, 1);
        return what == 0 && first != NONE ? least : first;
    }

    public int knit(int person) throws NoSuchElementException {
        checkPerson(person);
        return told.knitFor(person, socks);
    }

    public int darner() {
        int most = foreseen(DARNER_FAIRS).couplesBehind(DARNER_FAIRS);
        int darner = NONE;
        for (int one = 0; one < told.people; one++) {
            int ownHoles = socks.holes[one];
            if (ownHoles > 0) {
                socks.holes[one] = 0;
                outlook.figureAgain(one, DARNER_FAIRS);
                trial.restart();
                trial.walk(DARNER_FAIRS);
                int many = trial.couplesBehind(DARNER_FAIRS);
                if (many > most) {
                    most = many;
                    darner = one;
                }
                socks.holes[one] = ownHoles;
                outlook.figureAgain(one, DARNER_FAIRS);
            }
        }
        return darner;
    }

    // ---- what is SEEN ----

    public int see(int person, int fairs, int other) throws NoSuchElementException {
        checkPerson(person);
        if (other != NONE) {
            checkPerson(other);
        }
        if (fairs < 1 || fairs > SEEN_FAIRS_MOST || person == other || !book.addSeen(person, fairs, other)) {
            refused[REFUSED_SEEN]++;
            return NONE;
        }
        dyes.known = false;
        return book.seen;
    }

    public void forget() {
        book.seen = 0;
        dyes.known = false;
    }

    public int dyed(int what) throws NoSuchElementException {
        checkWhat(what, 2);
        if (what == 2) {
            return book.isAsSeen(foreseen(WALK_MOST)) ? 1 : 0;
        }
        dyes.find();
        return what == 0 ? dyes.many : dyes.first;
    }

    public int next(int what) throws NoSuchElementException {
        checkWhat(what, 1);
        dyes.find();
        return what == 0 ? dyes.tellingFair() : dyes.unlikeBehind(dyes.tellingFair());
    }

    // ---- the basket, games, rings, generations ----

    public int basket(int socks, int what) throws NoSuchElementException, IllegalArgumentException {
        checkWhat(what, 2);
        if (socks < 1 || socks > BASKET_MOST) {
            throw new IllegalArgumentException("not so many socks are in a basket");
        }
        int goBy = 0;
        for (int some = 1; some < socks; some++) {
            if (basketLuck(socks, some) > basketLuck(socks, goBy)) {
                goBy = some;
            }
        }
        if (what == 0) {
            return goBy;
        }
        int upper = basketLuck(socks, goBy);
        int lower = socks * 840;
        int common = commonDivisor(upper, lower);
        return (what == 1 ? upper : lower) / Math.max(1, common);
    }

    /** How likely it gets the best one, in parts of 840 by the socks (840 is divided by all of 1 to 8). */
    private static int basketLuck(int many, int goBy) {
        if (goBy == 0) {
            return 840;
        }
        int luck = 0;
        for (int ahead = goBy; ahead < many; ahead++) {
            // The best one has so many ahead of it: it is taken if the best of these was let go by.
            luck += goBy * (840 / Math.max(1, ahead));
        }
        return luck;
    }

    private static int commonDivisor(int one, int other) {
        int greater = one;
        int lesser = other;
        for (int turn = 0; turn < 64 && lesser != 0; turn++) {
            int rest = greater % lesser;
            greater = lesser;
            lesser = rest;
        }
        return greater;
    }

    public int game(int person, int other, int what) throws NoSuchElementException, IllegalArgumentException {
        checkPerson(person);
        checkPerson(other);
        checkWhat(what, 1);
        if (person == other) {
            throw new IllegalArgumentException("a game is of two");
        }
        int many = 0;
        int first = NONE;
        for (int choice = 3; choice >= 0; choice--) {
            if (isGameAtRest(person, choice >> 1, other, choice & 1)) {
                many++;
                first = 10 * (choice >> 1) + (choice & 1);
            }
        }
        return what == 0 ? many : first;
    }

    private boolean isGameAtRest(int person, int shown, int other, int otherShown) {
        return gain(person, shown, other, otherShown) >= gain(person, 1 - shown, other, otherShown)
            && gain(other, otherShown, person, shown) >= gain(other, 1 - otherShown, person, shown);
    }

    private int gain(int person, int shown, int other, int otherShown) {
        int holes = shown == 1 ? 0 : socks.holes[person];
        int otherHoles = otherShown == 1 ? 0 : socks.holes[other];
        int gained = Math.max(0, likenessShown(person, holes, other, otherHoles));
        int hidden = otherShown == 1 ? socks.holes[other] : 0;
        return gained - hidden / 2 - shown;
    }

    public int ring() {
        return knownTies().leastRing();
    }

    public int generations(int seed, int n, int what) throws NoSuchElementException, IllegalArgumentException {
        checkWhat(what, 2);
        if (n < 0 || n > GENERATIONS_MOST) {
            throw new IllegalArgumentException("not so many generations");
        }
        ages.run(seed, n, socks);
        switch (what) {
            case 0: return ages.boundPeople();
            case 1: return ages.parted;
            default: return ages.socks.allHoles();
        }
    }

    public int far(int person, int other) throws NoSuchElementException {
        checkPerson(person);
        checkPerson(other);
        return knownTies().stepsBetween(person, other);
    }

    public int circles() {
        return knownTies().parts();
    }

    // ---- the image ----

    public void image() {
        kept.copyFrom(book);
        isKept = true;
    }

    public boolean restore() {
        if (!isKept) {
            return false;
        }
        book.copyFrom(kept);
        socksChanged();
        return true;
    }

    // ---- what several calls need ----

    private void checkPerson(int person) {
        if (person < 0 || person >= told.people) {
            throw new NoSuchElementException("no such person");
        }
    }

    private static void checkWhat(int what, int greatest) {
        if (what < 0 || what > greatest) {
            throw new NoSuchElementException("no such what");
        }
    }

    private static void checkForeseen(int fairs) {
        if (fairs < 0 || fairs > FORESEEN_MOST) {
            throw new IllegalArgumentException("not so many fairs are foreseen");
        }
    }

    private int freeOnes() {
        int free = 0;
        for (int one = 0; one < told.people; one++) {
            if (socks.mates[one] == NONE) {
                free |= 1 << one;
            }
        }
        return free;
    }

    /** The course from now on, walked behind so many FAIRS. */
    private Course foreseen(int fairs) {
        outlook.reach(fairs);
        course.walk(fairs);
        return course;
    }

    private Ties knownTies() {
        ties.know();
        return ties;
    }

    private boolean areFreeTwo(int person, int other) {
        return person != other && socks.mates[person] == NONE && socks.mates[other] == NONE;
    }

    private int likenessShown(int person, int holes, int other, int otherHoles) {
        return told.likeness(person, socks.colours[person], holes, other, socks.colours[other], otherHoles);
    }

    private void socksChanged() {
        outlook.reached = 0;
        ties.known = false;
        bindingsChanged();
    }

    private void bindingsChanged() {
        course.restart();
        ways.restsKnown = false;
        dyes.known = false;
    }

    /** Binds those of a row of mates who aren't bound, most ALIKE first, by what ALIKE gives in a square. */
    private static void bindMostAlike(int[] given, int square, int[] mates, int row, int people) {
        for (int turn = 0; turn < people; turn++) {
            int most = 0;
            int one = NONE;
            int other = NONE;
            for (int a = 0; a < people; a++) {
                for (int b = a + 1; mates[row + a] == NONE && b < people; b++) {
                    int here = given[square + a * PEOPLE_MOST + b];
                    if (here > most && mates[row + b] == NONE) {
                        most = here;
                        one = a;
                        other = b;
                    }
                }
            }
            if (one == NONE) {
                return;
            }
            mates[row + one] = other;
            mates[row + other] = one;
        }
    }

    /** Unbinds those of a row of mates who are worn through (bits): how many couples are parted. */
    private static int partWorn(int worn, int[] mates, int row, int people) {
        int parted = 0;
        for (int one = 0; one < people; one++) {
            int other = mates[row + one];
            if ((worn >> one & 1) != 0 && other >= 0) {
                mates[row + one] = NONE;
                mates[row + other] = NONE;
                parted++;
            }
        }
        return parted;
    }

    /** What changes from day to day: the YEAR and, of each of PEOPLE, COLOUR, HOLES and to whom bound. */
    private static final class Socks {
        static final int ROW = 1 + PEOPLE_MOST;

        int year;
        final int[] colours;
        final int[] holes;
        final int[] mates;

        Socks() {
            colours = new int[PEOPLE_MOST];
            holes = new int[PEOPLE_MOST];
            mates = new int[PEOPLE_MOST];
            clear();
        }

        void clear() {
            year = 0;
            for (int one = 0; one < PEOPLE_MOST; one++) {
                colours[one] = 0;
                holes[one] = 0;
                mates[one] = NONE;
            }
        }

        void copyFrom(Socks from) {
            year = from.year;
            System.arraycopy(from.colours, 0, colours, 0, PEOPLE_MOST);
            System.arraycopy(from.holes, 0, holes, 0, PEOPLE_MOST);
            System.arraycopy(from.mates, 0, mates, 0, PEOPLE_MOST);
        }

        /** A row is the YEAR and one number for each of PEOPLE: what is kept of ACTS stays small. */
        void writeTo(int[] rows, int at) {
            rows[at] = year;
            for (int one = 0; one < PEOPLE_MOST; one++) {
                rows[at + 1 + one] = colours[one] | holes[one] << 4 | mates[one] + 1 << 8;
            }
        }

        void readFrom(int[] rows, int at) {
            year = rows[at];
            for (int one = 0; one < PEOPLE_MOST; one++) {
                int all = rows[at + 1 + one];
                colours[one] = all & 15;
                holes[one] = all >> 4 & 15;
                mates[one] = (all >> 8) - 1;
            }
        }

        /** HOLES of all; places behind the last one of PEOPLE have none. */
        int allHoles() {
            int all = 0;
            for (int one = 0; one < PEOPLE_MOST; one++) {
                all += holes[one];
            }
            return all;
        }
    }

    /** What an image keeps: the SOCKS, the ACTS (as the SOCKS were ahead of each) and what is SEEN. */
    private static final class Book {
        final Socks socks;
        int acts;
        int seen;
        private int firstAct;
        private final int[] actRows;
        private final int[] seenPeople;
        private final int[] seenFairs;
        private final int[] seenOthers;

        Book() {
            socks = new Socks();
            acts = 0;
            seen = 0;
            firstAct = 0;
            actRows = new int[ACTS_MOST * Socks.ROW];
            seenPeople = new int[SEEN_MOST];
            seenFairs = new int[SEEN_MOST];
            seenOthers = new int[SEEN_MOST];
        }

        void startAnew(Told told) {
            socks.copyFrom(told.start);
            acts = 0;
            seen = 0;
            firstAct = 0;
        }

        void copyFrom(Book from) {
            socks.copyFrom(from.socks);
            acts = from.acts;
            seen = from.seen;
            firstAct = from.firstAct;
            System.arraycopy(from.actRows, 0, actRows, 0, ACTS_MOST * Socks.ROW);
            System.arraycopy(from.seenPeople, 0, seenPeople, 0, SEEN_MOST);
            System.arraycopy(from.seenFairs, 0, seenFairs, 0, SEEN_MOST);
            System.arraycopy(from.seenOthers, 0, seenOthers, 0, SEEN_MOST);
        }

        /** Keeps the SOCKS as they are ahead of an ACT; the rows go round, so that the oldest one is lost. */
        void keepAct() {
            if (acts == ACTS_MOST) {
                firstAct = (firstAct + 1) % ACTS_MOST;
                acts--;
            }
            socks.writeTo(actRows, (firstAct + acts) % ACTS_MOST * Socks.ROW);
            acts++;
        }

        boolean undoAct() {
            if (acts == 0) {
                return false;
            }
            acts--;
            socks.readFrom(actRows, (firstAct + acts) % ACTS_MOST * Socks.ROW);
            return true;
        }

        boolean addSeen(int person, int fairs, int other) {
            if (seen >= SEEN_MOST) {
                return false;
            }
            seenPeople[seen] = person;
            seenFairs[seen] = fairs;
            seenOthers[seen] = other;
            seen++;
            return true;
        }

        boolean isAsSeen(Course course) {
            for (int i = 0; i < seen && i < SEEN_MOST; i++) {
                if (course.mateBehind(seenPeople[i], seenFairs[i]) != seenOthers[i]) {
                    return false;
                }
            }
            return true;
        }
    }

    /** What a TEXT tells: PEOPLE with what of them never changes, how they start, and the RULES. */
    private static final class Told {
        int people;
        final int[] patterns;
        final int[] wools;
        final int[] sizes;
        final int[] charms;
        final Socks start;
        final Rules rules;

        /** With room for so many steps of its RULES. */
        Told(int steps) {
            people = 0;
            patterns = new int[PEOPLE_MOST + 1];
            wools = new int[PEOPLE_MOST + 1];
            sizes = new int[PEOPLE_MOST + 1];
            charms = new int[PEOPLE_MOST + 1];
            start = new Socks();
            rules = new Rules(steps);
        }

        void clear() {
            people = 0;
            start.clear();
            rules.clear();
        }

        /** What ALIKE gives for two with these COLOURS and HOLES. */
        int likeness(int one, int colour, int holes, int other, int otherColour, int otherHoles) {
            int colours = Math.abs(colour - otherColour);
            int far = Math.abs(sizes[one] - sizes[other]);
            int uneven = Math.abs(holes - otherHoles);
            int onePattern = patterns[one] == patterns[other] ? 1 : 0;
            if (!rules.hasAlike()) {
                return 10 - colours - far - uneven + 5 * onePattern;
            }
            int[] values = rules.values;
            values[Reader.COLOURS_APART] = colours;
            values[Reader.SIZES_APART] = far;
            values[Reader.HOLES] = uneven;
            values[Reader.WORN] = holes + otherHoles;
            values[Reader.PATTERN] = onePattern;
            values[Reader.WOOL] = wools[one] == wools[other] ? 1 : 0;
            values[Reader.PLAIN] = (patterns[one] == 0 ? 1 : 0) + (patterns[other] == 0 ? 1 : 0);
            return rules.figure(rules.alikeFrom, rules.alikeTo);
        }

        /** What LIKES gives for one and another one, by what ALIKE gives for both. */
        int fondness(int one, int other, int alikeBoth, int otherHoles) {
            if (!rules.hasLikes()) {
                return alikeBoth + charms[other];
            }
            int[] values = rules.values;
            values[Reader.ALIKE] = alikeBoth;
            values[Reader.CHARM] = charms[other];
            values[Reader.OWN] = charms[one];
            values[Reader.SIZE] = sizes[other];
            values[Reader.HOLES] = otherHoles;
            return rules.figure(rules.likesFrom, rules.likesTo);
        }

        /** The first SOCK that is ALIKE to one alone; what ALIKE doesn't look at is tried with its first value only. */
        int knitFor(int person, Socks now) {
            int sizesTried = rules.alikeLooksAt(1 << Reader.SIZES_APART) ? SIZE_MOST : 1;
            int coloursTried = rules.alikeLooksAt(1 << Reader.COLOURS_APART) ? COLOURS : 1;
            int patternsTried = rules.alikeLooksAt(1 << Reader.PATTERN | 1 << Reader.PLAIN) ? PATTERNS : 1;
            int woolsTried = rules.alikeLooksAt(1 << Reader.WOOL) ? WOOLS : 1;
            for (int size = 1; size <= sizesTried; size++) {
                for (int colour = 0; colour < coloursTried; colour++) {
                    for (int pattern = 0; pattern < patternsTried; pattern++) {
                        for (int wool = 0; wool < woolsTried; wool++) {
                            sizes[KNIT] = size;
                            patterns[KNIT] = pattern;
                            wools[KNIT] = wool;
                            if (isLikeOneAlone(colour, person, now)) {
                                return 10000 * size + 100 * colour + 10 * pattern + wool;
                            }
                        }
                    }
                }
            }
            return NONE;
        }

        private boolean isLikeOneAlone(int colour, int person, Socks now) {
            if (likeness(person, now.colours[person], now.holes[person], KNIT, colour, 0) <= 0) {
                return false;
            }
            for (int one = 0; one < people; one++) {
                if (one != person && likeness(one, now.colours[one], now.holes[one], KNIT, colour, 0) > 0) {
                    return false;
                }
            }
            return true;
        }
    }

    /**
     * ALIKE and LIKES as steps over a pile of numbers: a step is a kind and, behind it, a number or a VALUE.
     * With room for no steps they are only counted, as a TEXT is read for its FAULT alone.
     */
    private static final class Rules {
        static final int NUMBER = 0;
        static final int VALUE = 1;
        static final int NOT = 2;
        static final int OR = 3;
        static final int AND = 4;
        static final int LESS = 5;
        static final int SAME = 6;
        static final int PLUS = 7;
        static final int MINUS = 8;
        static final int TIMES = 9;
        static final int BY = 10;

        private static final int KIND_SHIFT = 20;
        private static final int NUMBER_MASK = (1 << KIND_SHIFT) - 1;
        private static final int VALUE_MASK = 31;

        // An EXPR has 5 levels at which a left part may wait, and stands within 5 others at most: 36 wait at most.
        private static final int PILE_MASK = 63;

        final int[] values;
        int size;
        int alikeFrom;
        int alikeTo;
        int likesFrom;
        int likesTo;
        private int alikeValues;
        private final int[] steps;
        private final int[] pile;

        Rules(int room) {
            values = new int[VALUE_MASK + 1];
            steps = new int[Math.max(0, room)];
            pile = new int[PILE_MASK + 1];
            clear();
        }

        void clear() {
            size = 0;
            alikeFrom = 0;
            alikeTo = 0;
            likesFrom = 0;
            likesTo = 0;
            alikeValues = 0;
        }

        boolean hasAlike() {
            return alikeTo > alikeFrom;
        }

        boolean hasLikes() {
            return likesTo > likesFrom;
        }

        void endAlike(int from) {
            alikeFrom = from;
            alikeTo = size;
            for (int at = from; at < size && at < steps.length; at++) {
                if (steps[at] >> KIND_SHIFT == VALUE) {
                    alikeValues |= 1 << (steps[at] & VALUE_MASK);
                }
            }
        }

        void endLikes(int from) {
            likesFrom = from;
            likesTo = size;
        }

        /** Whether ALIKE looks at any of these VALUES (bits); without a rule it doesn't look at wool. */
        boolean alikeLooksAt(int valueBits) {
            int looked = hasAlike() ? alikeValues : ~(1 << Reader.WOOL);
            return (looked & valueBits) != 0;
        }

        void addStep(int kind, int number) {
            if (size < steps.length) {
                steps[size] = kind << KIND_SHIFT | number & NUMBER_MASK;
            }
            size++;
        }

        /** What the steps from one on, up to another one, give for the values that are set. */
        int figure(int from, int to) {
            int last = 0;
            int top = 0;
            for (int at = from; at < to && at < steps.length; at++) {
                int kind = steps[at] >> KIND_SHIFT;
                int number = steps[at] & NUMBER_MASK;
                if (kind <= VALUE) {
                    pile[top & PILE_MASK] = last;
                    top++;
                    last = kind == NUMBER ? number : values[number & VALUE_MASK];
                } else if (kind == NOT) {
                    last = last == 0 ? 1 : 0;
                } else {
                    top--;
                    int left = pile[top & PILE_MASK];
                    switch (kind) {
                        case OR: last = left != 0 || last != 0 ? 1 : 0; break;
                        case AND: last = left != 0 && last != 0 ? 1 : 0; break;
                        case LESS: last = left < last ? 1 : 0; break;
                        case SAME: last = left == last ? 1 : 0; break;
                        case PLUS: last = left + last; break;
                        case MINUS: last = left - last; break;
                        case TIMES: last = left * last; break;
                        default: last = last == 0 ? 0 : left / last; break;
                    }
                }
            }
            return last;
        }
    }

    /**
     * Reads a TEXT. Behind the first FAULT the reader stands still at a kind of TOKEN that no rule of the
     * grammar takes: so every rule ends by itself, and no later FAULT counts.
     */
    private static final class Reader {
        // Kinds of TOKENS: words by their place in WORDS, signs by their byte (all of these are above 39).
        static final int PLAIN = 0;
        static final int HEELED = 3;
        static final int BOUND = 4;
        static final int ALIKE = 5;
        static final int LIKES = 6;
        static final int OR = 7;
        static final int AND = 8;
        static final int NOT = 9;
        static final int COLOURS_APART = 10;
        static final int SIZES_APART = 11;
        static final int HOLES = 12;
        static final int WORN = 13;
        static final int PATTERN = 14;
        static final int WOOL = 15;
        static final int CHARM = 16;
        static final int OWN = 17;
        static final int SIZE = 18;
        private static final int OTHER_WORD = 19;
        private static final int NUMBER = 20;
        private static final int END = 21;
        private static final int NO_TOKEN = 22;
        private static final int STOPPED = 23;

        private static final String WORDS =
            "plain   striped argyle  heeled  bound   alike   likes   or      and     not     colours sizes   holes   worn    pattern wool    charm   own     size    ";
        private static final String SIGNS = ";()+-*/<=";
        private static final int WORD_ROOM = 8;

        private static final int ALIKE_VALUES = 1 << COLOURS_APART | 1 << SIZES_APART | 1 << HOLES | 1 << WORN
            | 1 << PATTERN | 1 << WOOL | 1 << PLAIN;
        private static final int LIKES_VALUES = 1 << ALIKE | 1 << CHARM | 1 << OWN | 1 << SIZE | 1 << HOLES;

        // Levels of an EXPR, from the loosest one on.
        private static final int ORS = 0;
        private static final int ANDS = 1;
        private static final int TESTS = 2;
        private static final int SUMS = 3;
        private static final int PRODUCTS = 4;

        private static final int DIGITS_MOST = 4;
        private static final int NOTS_MOST = 6;
        private static final int WITHIN_MOST = 6;

        private static final int WRONG_TOKEN = 1;
        private static final int TOO_MUCH = 2;
        private static final int UNKNOWN = 3;
        private static final int BOUND_ALREADY = 4;
        private static final int TOLD_TWICE = 5;

        int place;
        private final byte[] text;
        private Told told;
        private int length;
        private int at;
        private int begin;
        private int kind;
        private int number;
        private int digits;
        private int code;
        private int valuesHere;

        Reader(byte[] text, Told told) {
            this.text = text;
            this.told = told;
        }

        /** Reads so many bytes: 0, or the FAULT, whose place is kept. */
        int read(int many, Told into) {
            told = into;
            length = Math.min(many, text.length);
            at = 0;
            code = 0;
            place = NONE;
            told.clear();
            step();
            for (int turn = 0; turn < TAPE_MOST && code == 0 && kind != END; turn++) {
                if (kind <= HEELED) {
                    readSock();
                } else if (kind == BOUND) {
                    readCouple();
                } else if (kind == ALIKE || kind == LIKES) {
                    readRule();
                } else {
                    refuse(WRONG_TOKEN);
                }
                stepOver(';');
            }
            return code;
        }

        // ---- TOKENS ----

        private void refuse(int fault) {
            if (code == 0) {
                code = fault;
                place = begin;
            }
            kind = STOPPED;
        }

        private void step() {
            if (code != 0) {
                kind = STOPPED;
                return;
            }
            while (at < length && (text[at] == ' ' || text[at] == 10)) {
                at++;
            }
            begin = at;
            if (at >= length) {
                kind = END;
            } else if (text[at] >= 'a' && text[at] <= 'z') {
                stepWord();
            } else if (text[at] >= '0' && text[at] <= '9') {
                stepNumber();
            } else {
                // A byte above 127 is below 0 here, and no sign.
                kind = text[at] > 0 && SIGNS.indexOf((char) text[at]) >= 0 ? text[at] : NO_TOKEN;
                at++;
            }
        }

        private void stepWord() {
            int letters = 0;
            for (; at < length && text[at] >= 'a' && text[at] <= 'z'; at++) {
                letters++;
            }
            kind = OTHER_WORD;
            for (int word = 0; word < OTHER_WORD && letters < WORD_ROOM; word++) {
                int from = word * WORD_ROOM;
                int same = 0;
                for (int i = 0; i < letters && text[begin + i] == WORDS.charAt(from + i); i++) {
                    same++;
                }
                if (same == letters && WORDS.charAt(from + letters) == ' ') {
                    kind = word;
                }
            }
        }

        private void stepNumber() {
            kind = NUMBER;
            number = 0;
            digits = 0;
            for (; at < length && text[at] >= '0' && text[at] <= '9'; at++) {
                digits++;
                if (digits <= DIGITS_MOST) {
                    number = 10 * number + text[at] - '0';
                }
            }
        }

        private boolean isAnyWord() {
            return kind <= OTHER_WORD;
        }

        private void stepOver(int sign) {
            if (kind == sign) {
                step();
            } else {
                refuse(WRONG_TOKEN);
            }
        }

        // ---- LINES ----

        private void readSock() {
            int one = told.people;
            if (one >= PEOPLE_MOST) {
                refuse(TOO_MUCH);
                return;
            }
            told.patterns[one] = kind;
            step();
            told.start.colours[one] = readNumber(0, COLOURS - 1);
            told.wools[one] = readNumber(0, WOOLS - 1);
            told.sizes[one] = readNumber(1, SIZE_MOST);
            told.start.holes[one] = readNumber(0, HOLES_MOST);
            told.charms[one] = readNumber(0, CHARM_MOST);
            told.people++;
        }

        private int readNumber(int least, int most) {
            int read = number;
            if (kind != NUMBER) {
                refuse(WRONG_TOKEN);
            } else if (digits > DIGITS_MOST || read < least || read > most) {
                refuse(TOO_MUCH);
            } else {
                step();
            }
            return read;
        }

        private void readCouple() {
            step();
            int one = readUnbound(NONE);
            int other = readUnbound(one);
            if (code == 0 && one >= 0 && other >= 0) {
                told.start.mates[one] = other;
                told.start.mates[other] = one;
            }
        }

        /** One of PEOPLE who isn't bound, nor that other one; NONE behind a FAULT. */
        private int readUnbound(int unlike) {
            int read = number;
            if (kind != NUMBER) {
                refuse(WRONG_TOKEN);
            } else if (digits > DIGITS_MOST) {
                refuse(TOO_MUCH);
            } else if (read >= told.people) {
                refuse(UNKNOWN);
            } else if (read == unlike || told.start.mates[read] != NONE) {
                refuse(BOUND_ALREADY);
            } else {
                step();
                return read;
            }
            return NONE;
        }

        private void readRule() {
            boolean isAlike = kind == ALIKE;
            if (isAlike ? told.rules.hasAlike() : told.rules.hasLikes()) {
                refuse(TOLD_TWICE);
                return;
            }
            valuesHere = isAlike ? ALIKE_VALUES : LIKES_VALUES;
            int from = told.rules.size;
            step();
            readLevel(ORS, 0);
            if (isAlike) {
                told.rules.endAlike(from);
            } else {
                told.rules.endLikes(from);
            }
        }

        // ---- EXPR: within tells in how many others it stands ----

        /** What is joined at a level, of parts of the next one: an EXPR at the first one. */
        private void readLevel(int level, int within) {
            if (level > PRODUCTS) {
                readPart(within);
                return;
            }
            int nots = level == TESTS ? readNots() : 0;
            readLevel(level + 1, within);
            int most = level == TESTS ? 1 : TAPE_MOST;
            for (int turn = 0; turn < most && joinHere(level) != NONE; turn++) {
                int join = joinHere(level);
                step();
                readLevel(level + 1, within);
                told.rules.addStep(join, 0);
            }
            for (int i = 0; i < nots; i++) {
                told.rules.addStep(Rules.NOT, 0);
            }
        }

        private int readNots() {
            int nots = 0;
            for (; nots < NOTS_MOST && kind == NOT; nots++) {
                step();
            }
            if (kind == NOT) {
                refuse(TOO_MUCH);
            }
            return nots;
        }

        /** The kind of step by which the TOKEN joins parts at a level; NONE if it doesn't. */
        private int joinHere(int level) {
            switch (kind) {
                case OR: return level == ORS ? Rules.OR : NONE;
                case AND: return level == ANDS ? Rules.AND : NONE;
                case '<': return level == TESTS ? Rules.LESS : NONE;
                case '=': return level == TESTS ? Rules.SAME : NONE;
                case '+': return level == SUMS ? Rules.PLUS : NONE;
                case '-': return level == SUMS ? Rules.MINUS : NONE;
                case '*': return level == PRODUCTS ? Rules.TIMES : NONE;
                case '/': return level == PRODUCTS ? Rules.BY : NONE;
                default: return NONE;
            }
        }

        private void readPart(int within) {
            if (kind == NUMBER && digits > DIGITS_MOST) {
                refuse(TOO_MUCH);
            } else if (kind == NUMBER) {
                told.rules.addStep(Rules.NUMBER, number);
                step();
            } else if (kind == '(') {
                step();
                readWithin(within + 1);
                stepOver(')');
            } else if (!isAnyWord()) {
                refuse(WRONG_TOKEN);
            } else if ((valuesHere >> kind & 1) == 0) {
                refuse(UNKNOWN);
            } else {
                told.rules.addStep(Rules.VALUE, kind);
                step();
            }
        }

        private void readWithin(int within) {
            if (within < WITHIN_MOST) {
                readLevel(ORS, within);
            } else {
                refuse(isAnyWord() || kind == NUMBER || kind == '(' ? TOO_MUCH : WRONG_TOKEN);
            }
        }
    }

    /** What ALIKE gives for all couples now and ahead of each of the next FAIRS: a square for each. */
    private static final class Outlook {
        final Told told;
        final Socks socks;
        final int[] given;
        final int[] oneColour;
        int reached;

        Outlook(Told told, Socks socks) {
            this.told = told;
            this.socks = socks;
            given = new int[WALK_MOST * SQUARE];
            oneColour = new int[SQUARE];
            reached = 0;
        }

        /** Figures what isn't known yet for so many FAIRS. */
        void reach(int fairs) {
            for (int ahead = reached; ahead < fairs && ahead < WALK_MOST; ahead++) {
                for (int one = 0; one < told.people; one++) {
                    for (int other = one + 1; other < told.people; other++) {
                        figureCouple(one, other, ahead);
                    }
                }
                reached = ahead + 1;
            }
        }

        /** One SOCK is another one now: what is known for so many FAIRS is figured anew with it. */
        void figureAgain(int person, int fairs) {
            for (int ahead = 0; ahead < fairs && ahead < reached; ahead++) {
                for (int other = 0; other < told.people; other++) {
                    if (other != person) {
                        figureCouple(person, other, ahead);
                    }
                }
            }
        }

        private void figureCouple(int one, int other, int ahead) {
            int holes = Math.min(HOLES_MOST, socks.holes[one] + ahead);
            int otherHoles = Math.min(HOLES_MOST, socks.holes[other] + ahead);
            int both = told.likeness(one, socks.colours[one], holes, other, socks.colours[other], otherHoles);
            given[ahead * SQUARE + one * PEOPLE_MOST + other] = both;
            given[ahead * SQUARE + other * PEOPLE_MOST + one] = both;
        }

        void fillOneColour() {
            for (int one = 0; one < told.people; one++) {
                for (int other = one + 1; other < told.people; other++) {
                    oneColour[one * PEOPLE_MOST + other] =
                        told.likeness(one, 0, socks.holes[one], other, 0, socks.holes[other]);
                }
            }
        }
    }

    /** Who is bound to whom behind each of the next FAIRS, if only FAIRS are held. */
    private static final class Course {
        final Outlook outlook;
        private final Told told;
        private final Socks socks;
        private final int[] mates;
        private int walked;

        Course(Outlook outlook) {
            this.outlook = outlook;
            told = outlook.told;
            socks = outlook.socks;
            mates = new int[(WALK_MOST + 1) * PEOPLE_MOST];
            walked = NONE;
        }

        void restart() {
            walked = NONE;
        }

        int mateBehind(int person, int fairs) {
            return fairs < 0 || fairs > WALK_MOST ? NONE : mates[fairs * PEOPLE_MOST + person];
        }

        int singleBehind(int fairs) {
            int single = 0;
            for (int one = 0; one < told.people; one++) {
                if (mateBehind(one, fairs) == NONE) {
                    single |= 1 << one;
                }
            }
            return single;
        }

        int couplesBehind(int fairs) {
            return (told.people - Integer.bitCount(singleBehind(fairs))) / 2;
        }

        /** All mates behind so many FAIRS in one number, that rows may be told from each other. */
        long rowBehind(int fairs) {
            long row = 0;
            for (int one = 0; one < told.people; one++) {
                row = row << 4 | mateBehind(one, fairs) + 1;
            }
            return row;
        }

        /** To whom one is bound at the next FAIR, ahead of its new HOLES. */
        int mateAtNextFair(int person) {
            restart();
            walk(0);
            bindAt(1);
            return mates[PEOPLE_MOST + person];
        }

        /** Walks behind so many FAIRS, for which the outlook must have been reached. */
        void walk(int fairs) {
            if (walked == NONE) {
                System.arraycopy(socks.mates, 0, mates, 0, PEOPLE_MOST);
                walked = 0;
            }
            for (int fair = walked + 1; fair <= fairs && fair <= WALK_MOST; fair++) {
                bindAt(fair);
                partWorn(wornBehind(fair), mates, fair * PEOPLE_MOST, told.people);
                walked = fair;
            }
        }

        private void bindAt(int fair) {
            System.arraycopy(mates, (fair - 1) * PEOPLE_MOST, mates, fair * PEOPLE_MOST, PEOPLE_MOST);
            bindMostAlike(outlook.given, (fair - 1) * SQUARE, mates, fair * PEOPLE_MOST, told.people);
        }

        private int wornBehind(int fairs) {
            int worn = 0;
            for (int one = 0; one < told.people; one++) {
                if (socks.holes[one] + fairs >= HOLES_MOST) {
                    worn |= 1 << one;
                }
            }
            return worn;
        }
    }

    /** Who MAY be bound to whom, how much each LIKES each, and what follows for who stands where now. */
    private static final class Ties {
        final Told told;
        boolean known;
        private final Socks socks;
        private final Outlook outlook;
        private final int[] may;
        private final int[] fond;
        private final int[] wishes;

        Ties(Outlook outlook) {
            this.outlook = outlook;
            told = outlook.told;
            socks = outlook.socks;
            known = false;
            may = new int[PEOPLE_MOST];
            fond = new int[SQUARE];
            wishes = new int[PEOPLE_MOST];
        }

        /** Must have been called since SOCKS changed, ahead of any other one. */
        void know() {
            if (known) {
                return;
            }
            outlook.reach(1);
            for (int one = 0; one < told.people; one++) {
                may[one] = 0;
                for (int other = 0; other < told.people; other++) {
                    if (other != one) {
                        int at = one * PEOPLE_MOST + other;
                        int both = outlook.given[at];
                        may[one] |= both > 0 ? 1 << other : 0;
                        fond[at] = told.fondness(one, other, both, socks.holes[other]);
                    }
                }
            }
            known = true;
        }

        int whoMay(int person) {
            return may[person];
        }

        /** Whom one would rather have than a mate (bits); NONE is the mate of who has nobody. */
        int ratherThan(int person, int mate) {
            if (mate < 0) {
                return may[person];
            }
            int rather = 0;
            int row = person * PEOPLE_MOST;
            for (int other = 0; other < told.people; other++) {
                if ((may[person] >> other & 1) != 0 && fond[row + other] > fond[row + mate]) {
                    rather |= 1 << other;
                }
            }
            return rather;
        }

        int ratherNow(int person) {
            return ratherThan(person, socks.mates[person]);
        }

        int couplesThatMay() {
            int ends = 0;
            for (int one = 0; one < told.people; one++) {
                ends += Integer.bitCount(whoMay(one));
            }
            return ends / 2;
        }

        int whoMayNobody() {
            int lone = 0;
            for (int one = 0; one < told.people; one++) {
                if (whoMay(one) == 0) {
                    lone |= 1 << one;
                }
            }
            return lone;
        }

        int closestCouple() {
            int couple = NONE;
            int most = 0;
            for (int one = 0; one < told.people; one++) {
                for (int other = one + 1; other < told.people; other++) {
                    int both = outlook.given[one * PEOPLE_MOST + other];
                    if (couple == NONE || both > most) {
                        couple = 10 * one + other;
                        most = both;
                    }
                }
            }
            return couple;
        }

        int faithfulCouples() {
            int faithful = 0;
            for (int one = 0; one < told.people; one++) {
                int other = socks.mates[one];
                if (other > one && !isTempted(one) && !isTempted(other)) {
                    faithful++;
                }
            }
            return faithful;
        }

        private boolean isTempted(int person) {
            int rather = ratherNow(person);
            for (int other = 0; other < told.people; other++) {
                if ((rather >> other & 1) != 0 && (ratherNow(other) >> person & 1) != 0) {
                    return true;
                }
            }
            return false;
        }

        int leastRing() {
            for (int one = 0; one < told.people; one++) {
                wishes[one] = ratherNow(one);
            }
            int least = NONE;
            for (int one = 0; one < told.people; one++) {
                int length = ringThrough(one);
                if (length != NONE && (least == NONE || length < least)) {
                    least = length;
                }
            }
            return least;
        }

        private int ringThrough(int person) {
            int reached = wishes[person];
            int edge = reached;
            for (int length = 2; length <= told.people; length++) {
                edge = allOf(wishes, edge);
                if ((edge >> person & 1) != 0) {
                    return length;
                }
                edge &= ~reached;
                reached |= edge;
            }
            return NONE;
        }

        int stepsBetween(int person, int other) {
            int reached = 1 << person;
            int edge = reached;
            for (int steps = 0; steps < told.people; steps++) {
                if ((edge >> other & 1) != 0) {
                    return steps;
                }
                edge = allOf(may, edge) & ~reached;
                reached |= edge;
            }
            return NONE;
        }

        int parts() {
            int parts = 0;
            int reached = 0;
            for (int one = 0; one < told.people; one++) {
                if ((reached >> one & 1) == 0) {
                    parts++;
                    reached |= partOf(one);
                }
            }
            return parts;
        }

        private int partOf(int person) {
            int part = 1 << person;
            for (int step = 1; step < told.people; step++) {
                part |= allOf(may, part);
            }
            return part;
        }

        /** All who are in a row's bits of any of some (bits). */
        private int allOf(int[] row, int some) {
            int all = 0;
            for (int one = 0; one < told.people; one++) {
                if ((some >> one & 1) != 0) {
                    all |= row[one];
                }
            }
            return all;
        }
    }

    /** Ways in which those who aren't bound might be. */
    private static final class Ways {
        final int[] row;
        boolean restsKnown;
        int rests;
        final int[] firstRest;
        final int[] restMates;
        private final Ties ties;
        private final Told told;
        private final long[] sums;
        private final int[] wishes;

        Ways(Ties ties, long[] room) {
            this.ties = ties;
            sums = room;
            told = ties.told;
            row = new int[PEOPLE_MOST];
            restsKnown = false;
            rests = 0;
            firstRest = new int[PEOPLE_MOST];
            restMates = new int[PEOPLE_MOST];
            wishes = new int[PEOPLE_MOST];
        }

        /** The most couples among each set of PEOPLE, or how much they are ALIKE together at most: of the free ones. */
        long fill(int[] given, boolean byLikeness, int free) {
            sums[0] = 0;
            for (int last = 0; last < told.people; last++) {
                for (int rest = 0; rest < 1 << last; rest++) {
                    long most = sums[rest];
                    for (int one = 0; one < last; one++) {
                        int both = given[one * PEOPLE_MOST + last];
                        if ((rest >> one & 1) != 0 && both > 0) {
                            most = Math.max(most, sums[rest ^ 1 << one] + (byLikeness ? both : 1));
                        }
                    }
                    sums[rest | 1 << last] = most;
                }
            }
            return sums[free];
        }

        /** The first row of as many couples, behind fill by couples. */
        void fillFirstRow(int[] given, int free) {
            clearRow();
            int open = free;
            for (int one = 0; one < told.people; one++) {
                if ((open >> one & 1) != 0) {
                    int rest = open ^ 1 << one;
                    int other = firstMate(given, one, rest, sums[open] - 1);
                    row[one] = other;
                    open = rest;
                    if (other != NONE) {
                        row[other] = one;
                        open = rest ^ 1 << other;
                    }
                }
            }
        }

        private int firstMate(int[] given, int one, int rest, long othersThen) {
            for (int other = one + 1; other < told.people; other++) {
                boolean isOpen = (rest >> other & 1) != 0;
                if (isOpen && given[one * PEOPLE_MOST + other] > 0 && sums[rest ^ 1 << other] == othersThen) {
                    return other;
                }
            }
            return NONE;
        }

        private void clearRow() {
            for (int one = 0; one < PEOPLE_MOST; one++) {
                row[one] = NONE;
            }
        }

        void findRests(int free) {
            if (restsKnown) {
                return;
            }
            restsKnown = true;
            rests = 0;
            clearRow();
            for (int one = 0; one < PEOPLE_MOST; one++) {
                firstRest[one] = NONE;
                restMates[one] = 0;
            }
            settleFrom(0, free, 0);
        }

        /**
         * Settles with whom each of the open ones is, from one on, in the order of rows; two who would leave
         * whom they have for each other are found as soon as both are settled. As deep as there are PEOPLE.
         */
        private void settleFrom(int from, int open, int settled) {
            int one = from;
            for (int turn = 0; turn < PEOPLE_MOST && one < told.people && (open >> one & 1) == 0; turn++) {
                one++;
            }
            if (one >= told.people) {
                noteRest();
                return;
            }
            int rest = open ^ 1 << one;
            int mays = ties.whoMay(one) & rest;
            for (int other = one + 1; other < told.people; other++) {
                if ((mays >> other & 1) != 0 && isCalm(one, other, settled) && isCalm(other, one, settled)) {
                    settleFrom(one + 1, rest ^ 1 << other, settled | 1 << one | 1 << other);
                }
            }
            if (isCalm(one, NONE, settled)) {
                settleFrom(one + 1, rest, settled | 1 << one);
            }
        }

        /** Gives one a mate: whether nobody who is settled and one would both leave theirs for each other. */
        private boolean isCalm(int one, int mate, int settled) {
            row[one] = mate;
            wishes[one] = ties.ratherThan(one, mate);
            int wished = wishes[one] & settled;
            for (int other = 0; other < told.people; other++) {
                if ((wished >> other & 1) != 0 && (wishes[other] >> one & 1) != 0) {
                    return false;
                }
            }
            return true;
        }

        private void noteRest() {
            for (int one = 0; one < told.people; one++) {
                int mate = row[one];
                if (rests == 0) {
                    firstRest[one] = mate;
                }
                if (mate != NONE) {
                    restMates[one] |= 1 << mate;
                }
            }
            rests++;
        }
    }

    /** Whose SOCK was DYED by what is SEEN, and how unlike the FAIRS would be by these. */
    private static final class Dyes {
        private static final int MOST = PEOPLE_MOST * (COLOURS - 1);

        boolean known;
        int many;
        int first;
        private final Course trial;
        private final Outlook outlook;
        private final Book book;
        private final int[] unlike;
        private final long[] rows;

        Dyes(Course trial, Book book, long[] room) {
            this.trial = trial;
            this.book = book;
            rows = room;
            outlook = trial.outlook;
            known = false;
            many = 0;
            first = NONE;
            unlike = new int[WALK_MOST + 1];
        }

        void find() {
            if (known) {
                return;
            }
            known = true;
            many = 0;
            first = NONE;
            for (int fairs = 0; fairs <= WALK_MOST; fairs++) {
                unlike[fairs] = 0;
            }
            outlook.reach(WALK_MOST);
            for (int one = 0; one < outlook.told.people; one++) {
                tryColours(one);
            }
        }

        private void tryColours(int one) {
            int[] colours = outlook.socks.colours;
            int own = colours[one];
            for (int tried = 0; tried < COLOURS; tried++) {
                if (tried != own) {
                    colours[one] = tried;
                    outlook.figureAgain(one, WALK_MOST);
                    trial.restart();
                    trial.walk(WALK_MOST);
                    if (book.isAsSeen(trial)) {
                        note(10 * one + tried);
                    }
                }
            }
            colours[one] = own;
            outlook.figureAgain(one, WALK_MOST);
        }

        private void note(int who) {
            if (many == 0) {
                first = who;
            }
            many++;
            for (int fairs = 1; fairs <= WALK_MOST; fairs++) {
                noteRow(fairs, trial.rowBehind(fairs));
            }
        }

        private void noteRow(int fairs, long row) {
            int from = (fairs - 1) * MOST;
            int to = from + unlike[fairs];
            for (int at = from; at < to; at++) {
                if (rows[at] == row) {
                    return;
                }
            }
            if (to < rows.length) {
                rows[to] = row;
                unlike[fairs]++;
            }
        }

        /** Behind a FAIR that isn't walked nobody is bound, by whomever: it never tells more than the first one. */
        int tellingFair() {
            if (many == 0) {
                return NONE;
            }
            int telling = 1;
            for (int fairs = 2; fairs <= WALK_MOST; fairs++) {
                if (unlike[fairs] > unlike[telling]) {
                    telling = fairs;
                }
            }
            return telling;
        }

        int unlikeBehind(int fairs) {
            return fairs < 1 || fairs > WALK_MOST ? 0 : unlike[fairs];
        }
    }

    /** GENERATIONS by a seed, on SOCKS of their own. */
    private static final class Ages {
        final Socks socks;
        int parted;
        private final Told told;
        private final int[] given;
        private int seed;

        Ages(Told told) {
            this.told = told;
            socks = new Socks();
            given = new int[SQUARE];
            parted = 0;
            seed = 0;
        }

        void run(int firstSeed, int fairs, Socks from) {
            seed = firstSeed;
            parted = 0;
            socks.copyFrom(from);
            for (int i = 0; i < fairs && told.people > 0; i++) {
                befall(draw(told.people), draw(4));
                holdOne();
            }
        }

        private int draw(int n) {
            seed = seed * 1103515245 + 12345;
            return n <= 0 ? 0 : (seed >>> 16 & 32767) % n;
        }

        private void befall(int who, int what) {
            int other = socks.mates[who];
            if (what == 0) {
                socks.holes[who] = Math.min(HOLES_MOST, socks.holes[who] + 3);
            } else if (what == 1 && other >= 0) {
                socks.mates[who] = NONE;
                socks.mates[other] = NONE;
            } else if (what == 2) {
                socks.colours[who] = draw(COLOURS);
                socks.holes[who] = 0;
            }
        }

        private void holdOne() {
            fillFree();
            bindMostAlike(given, 0, socks.mates, 0, told.people);
            int worn = 0;
            for (int one = 0; one < told.people; one++) {
                socks.holes[one] = Math.min(HOLES_MOST, socks.holes[one] + 1);
                worn |= socks.holes[one] == HOLES_MOST ? 1 << one : 0;
            }
            parted += partWorn(worn, socks.mates, 0, told.people);
        }

        private void fillFree() {
            int[] mates = socks.mates;
            for (int one = 0; one < told.people; one++) {
                for (int other = one + 1; mates[one] == NONE && other < told.people; other++) {
                    if (mates[other] == NONE) {
                        given[one * PEOPLE_MOST + other] = told.likeness(one, socks.colours[one], socks.holes[one],
                            other, socks.colours[other], socks.holes[other]);
                    }
                }
            }
        }

        int boundPeople() {
            int bound = 0;
            for (int one = 0; one < told.people; one++) {
                if (socks.mates[one] != NONE) {
                    bound++;
                }
            }
            return bound;
        }
    }
}
