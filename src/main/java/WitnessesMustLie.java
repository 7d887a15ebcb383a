import java.util.ArrayList;

/**
 * A court in which each on oath says what did not happen. Worlds stand as the bits of a long: what the laws, the
 * witnesses and the truth say of worlds is then a matter of and, or and not.
 */
public final class WitnessesMustLie {
    private static final int FACTS = 6;
    private static final int ALL_FACTS = 63;
    private static final int WORLDS = 64;
    private static final int FIGURES = 10;
    private static final int MOST_LAWS = 6;
    private static final int MOST_WITNESSES = 5;
    private static final int MOST_SAID = 10;
    private static final int SHELVES = 8;
    private static final int MOST_NUMBERS = 100;
    private static final int MOST_LIES = 8 * FACTS * FACTS;
    private static final int MEN = 12;

    private static final int NO_SUCH = -1;
    private static final int NO_ROOM = -2;
    private static final int NOT_AS_IT_MUST = -3;
    private static final int NONE = -4;
    private static final int NOTHING_HELD = -11;
    private static final int OTHER_KIND = -12;
    private static final int NO_PLACE = -13;
    private static final int SIZE_BELOW = -14;
    private static final int NO_FAILURE = -15;
    private static final int NOT_REFUSED = 0;
    private static final int NO_TRIAL_GOES_ON = -1000;
    private static final int NO_STATEMENT_HERE = -2000;
    private static final long OF_LONGS = 4000000000000000000L;

    private static final int ALL_BUT_SIGN = 0x7FFFFFFF;

    private static final int BYTES = 0;
    private static final int SHORTS = 1;
    private static final int INTS = 2;

    /** For each fact, the worlds that have it. */
    private static final long[] WORLDS_WITH = {
        0xAAAAAAAAAAAAAAAAL, 0xCCCCCCCCCCCCCCCCL, 0xF0F0F0F0F0F0F0F0L,
        0xFF00FF00FF00FF00L, 0xFFFF0000FFFF0000L, 0xFFFFFFFF00000000L
    };

    private final ArrayList<Says> kinds = new ArrayList<>();
    private final Shelf[] shelves = new Shelf[SHELVES];
    private final Trial court = new Trial();
    private final Trial kept = new Trial();
    private final Trial tried = new Trial();
    private boolean isKept;
    private final long[] oneLies = new long[MOST_LIES];
    private final long[] otherLies = new long[MOST_LIES];

    public WitnessesMustLie() {
        Says first = new Says(0);
        kinds.add(first);
        kinds.add(new Denies(1));
        kinds.add(new Both(2));
        kinds.add(new Either(3));
        kinds.add(new If(4));
        kinds.add(new Alike(5));
        kinds.add(new Expert(6));
        kinds.add(new Poet(7));
        for (int d = 0; d < shelves.length; d++) {
            shelves[d] = new Shelf(first);
        }
    }

    // ---- the trial as told

    public int trial(int d) {
        Shelf text = shelfAt(d);
        if (text == null) {
            return NO_SUCH;
        }
        int refusal = text.refusalAsRow();
        if (refusal != NOT_REFUSED) {
            return refusal;
        }
        if (text.sort != BYTES) {
            return OTHER_KIND;
        }
        int broken = brokenPlace(text);
        return broken >= 0 ? NO_TRIAL_GOES_ON - broken : enact(text);
    }

    public int law(int law, int what) {
        Saying saying = sayingIn(court.laws, law);
        if (saying == null || what < 0 || what > 5) {
            return NO_SUCH;
        }
        return saying.told(what);
    }

    public int said(int s, int what) {
        Saying saying = sayingIn(court.said, s);
        if (saying == null || what < 0 || what > 7) {
            return NO_SUCH;
        }
        if (what == 7) {
            return oneIf(hasWorld(saying.trueWorlds, court.truthWorld));
        }
        return what == 6 ? saying.teller : saying.told(what);
    }

    public int knows(int witness) {
        return court.hasWitness(witness) ? court.knownBy(witness) : NO_SUCH;
    }

    public int isTrue(int d, int a, int b, int world) {
        Shelf shelf = shelfAt(d);
        if (shelf == null || !isFact(a) || !isFact(b) || !isWorld(world)) {
            return NO_SUCH;
        }
        int refusal = shelf.refusalAsSaying();
        return refusal != NOT_REFUSED ? refusal : oneIf(hasWorld(shelf.worldsOf(a, b), world));
    }

    public int rules(int d, int a, int b) {
        Shelf shelf = shelfAt(d);
        if (shelf == null || !isFact(a) || !isFact(b)) {
            return NO_SUCH;
        }
        int refusal = shelf.refusalAsSaying();
        if (refusal != NOT_REFUSED) {
            return refusal;
        }
        boolean added = court.addLaw(newSaying(NONE, shelf.kind, shelf.figure, a, b));
        return added ? court.laws.size() - 1 : NO_ROOM;
    }

    public int says(int witness, int d, int a, int b) {
        Shelf shelf = shelfAt(d);
        if (!court.hasWitness(witness) || shelf == null || !isFact(a) || !isFact(b)) {
            return NO_SUCH;
        }
        int refusal = shelf.refusalAsSaying();
        if (refusal != NOT_REFUSED) {
            return refusal;
        }
        boolean added = court.addSaid(newSaying(witness, shelf.kind, shelf.figure, a, b));
        return added ? court.said.size() - 1 : NO_ROOM;
    }

    public int unsays() {
        int last = court.said.size() - 1;
        if (last < 0) {
            return NOT_AS_IT_MUST;
        }
        court.said.remove(last);
        return last;
    }

    public int witness(int knows) {
        if (!areFacts(knows)) {
            return NO_SUCH;
        }
        return court.addWitness(knows) ? court.witnesses - 1 : NO_ROOM;
    }

    public int truth(int world) {
        if (!isWorld(world)) {
            return NO_SUCH;
        }
        int before = court.truthWorld;
        court.truthWorld = world;
        return before;
    }

    // ---- worlds

    public long worlds(int what) {
        return isEitherOr(what) ? court.mayBeOrLeft(what) : refusedLong(NO_SUCH);
    }

    public int many(int what) {
        return isEitherOr(what) ? Long.bitCount(court.mayBeOrLeft(what)) : NO_SUCH;
    }

    public int proved(int what) {
        if (!isEitherOr(what)) {
            return NO_SUCH;
        }
        return what == 0 ? factsOfAll(court.left()) : factsOfNone(court.left());
    }

    public int slips(int what) {
        if (!isEitherOr(what)) {
            return NO_SUCH;
        }
        int slipping = court.trueOnes(court.truthWorld);
        if (what == 0) {
            return slipping;
        }
        return slipping == 0 ? NONE : Integer.numberOfTrailingZeros(slipping);
    }

    public int alone(int s) {
        Saying saying = sayingIn(court.said, s);
        return saying == null ? NO_SUCH : Long.bitCount(court.mayBe() & ~saying.trueWorlds);
    }

    public int clash() {
        long mayBe = court.mayBe();
        for (int i = 0; i < court.said.size(); i++) {
            long first = mayBe & ~court.said.get(i).trueWorlds;
            for (int j = i + 1; j < court.said.size(); j++) {
                long second = mayBe & ~court.said.get(j).trueWorlds;
                if (first != 0 && second != 0 && (first & second) == 0) {
                    return 10 * i + j;
                }
            }
        }
        return NONE;
    }

    public int proof(int fact) {
        if (!isFact(fact)) {
            return NO_SUCH;
        }
        long mayBe = court.mayBe();
        int best = NONE;
        int fewest = MOST_SAID + 1;
        for (int set = 0; set < 1 << court.said.size(); set++) {
            int size = Integer.bitCount(set);
            if (size < fewest && isProvedBy(court.leftBySaid(mayBe, set), fact)) {
                best = set;
                fewest = size;
            }
        }
        return best;
    }

    public int slipped() {
        long mayBe = court.mayBe();
        int best = NONE;
        int fewest = MOST_SAID + 1;
        for (int world = 0; world < WORLDS; world++) {
            if (!hasWorld(mayBe, world)) {
                continue;
            }
            int set = court.trueOnes(world);
            int size = Integer.bitCount(set);
            if (size < fewest || size == fewest && set < best) {
                best = set;
                fewest = size;
            }
        }
        return best;
    }

    // ---- whom to ask, in which order

    public int ask() {
        long left = court.left();
        if (left == 0) {
            return NONE;
        }
        int best = NONE;
        int most = -1;
        for (int fact = 0; fact < FACTS; fact++) {
            int having = Long.bitCount(left & worldsWith(fact));
            int lesser = Math.min(having, Long.bitCount(left) - having);
            if (lesser > most) {
                best = fact;
                most = lesser;
            }
        }
        return best;
    }

    public int plain() {
        int best = NONE;
        int fewest = MOST_WITNESSES + 1;
        for (int set = 0; set < 1 << court.witnesses; set++) {
            int size = Integer.bitCount(set);
            if (size < fewest && court.isPlainBy(set)) {
                best = set;
                fewest = size;
            }
        }
        return best;
    }

    public int order(int what) {
        if (!isEitherOr(what)) {
            return NO_SUCH;
        }
        if (court.witnesses == 0) {
            return NOT_AS_IT_MUST;
        }
        int fewest = plain();
        if (fewest == NONE) {
            return NONE;
        }
        return what == 0 ? Integer.bitCount(fewest) : leastOrder(Integer.bitCount(fewest));
    }

    public int without(int witness) {
        if (!court.hasWitness(witness)) {
            return NO_SUCH;
        }
        long leftByOthers = court.leftByTellers(~(1 << witness));
        return Long.bitCount(leftByOthers) - Long.bitCount(court.left());
    }

    // ---- lies

    public int lie(int witness, int what) {
        if (!court.hasWitness(witness) || what < 0 || what > 2) {
            return NO_SUCH;
        }
        long left = court.left();
        int lies = 0;
        int best = NONE;
        int most = NONE;
        for (int code = 0; code < MOST_LIES; code++) {
            if (!isLie(code, witness)) {
                continue;
            }
            lies++;
            int leaving = Long.bitCount(left & ~worldsOfCode(code));
            if (leaving > most) {
                best = 100 * kindOfCode(code) + 10 * firstOfCode(code) + secondOfCode(code);
                most = leaving;
            }
        }
        if (what == 0) {
            return lies;
        }
        return what == 1 ? best : most;
    }

    public int twoLies(int one, int other) {
        if (!court.hasWitness(one) || !court.hasWitness(other) || one == other) {
            return NO_SUCH;
        }
        long left = court.left();
        int ofOne = fillLies(one, oneLies);
        int ofOther = fillLies(other, otherLies);
        int most = NONE;
        for (int i = 0; i < ofOne && i < oneLies.length; i++) {
            long leftByOne = left & ~oneLies[i];
            // No second lie adds worlds: what leaves no more than the best so far need not be tried.
            if (Long.bitCount(leftByOne) > most) {
                most = Math.max(most, mostLeft(leftByOne, ofOther));
            }
        }
        return most;
    }

    public int tells(int d, int a, int b) {
        Shelf shelf = shelfAt(d);
        if (shelf == null || !isFact(a) || !isFact(b)) {
            return NO_SUCH;
        }
        int refusal = shelf.refusalAsSaying();
        return refusal != NOT_REFUSED ? refusal : Long.bitCount(court.left() & shelf.worldsOf(a, b));
    }

    public int verdict() {
        int facts = court.truthWorld;
        for (int s = 0; s < court.said.size(); s++) {
            facts &= ~court.said.get(s).facts();
        }
        return facts;
    }

    // ---- what is known

    public int certain(int witness) {
        if (!court.hasWitness(witness)) {
            return NO_SUCH;
        }
        return factsAlike(likeInKnown(court.left(), court.truthWorld, court.knownBy(witness)));
    }

    public int knowsOf(int one, int other) {
        if (!court.hasWitness(one) || !court.hasWitness(other)) {
            return NO_SUCH;
        }
        long left = court.left();
        long thought = likeInKnown(left, court.truthWorld, court.knownBy(one));
        int facts = ALL_FACTS;
        for (int world = 0; world < WORLDS; world++) {
            if (hasWorld(thought, world)) {
                facts &= factsAlike(likeInKnown(left, world, court.knownBy(other)));
            }
        }
        return facts;
    }

    public int allKnow(int n) {
        if (n < 0 || n > 5) {
            return NO_SUCH;
        }
        if (court.witnesses == 0) {
            return NOT_AS_IT_MUST;
        }
        long left = court.left();
        long reached = 1L << court.truthWorld;
        for (int step = 0; step <= n; step++) {
            reached = court.reachedFrom(reached, left);
        }
        // The truth is among the reached: what is alike in all of them is as in the truth.
        return factsAlike(reached);
    }

    // ---- pencils, told trials

    public long pencils(int t, int n, int part) {
        if (t < 1 || t > 9 || n < 0 || n > MEN || !isEitherOr(part)) {
            return refusedLong(NO_SUCH);
        }
        long above = 0;
        for (int right = n; right <= MEN; right++) {
            above += waysToChoose(right) * power(t, right) * power(10 - t, MEN - right);
        }
        long below = power(10, MEN);
        long divisor = greatestDivisor(above, below);
        if (divisor == 0) {
            return refusedLong(NO_SUCH);
        }
        return part == 0 ? above / divisor : below / divisor;
    }

    public long fits(int d) {
        Shelf told = shelfAt(d);
        if (told == null) {
            return refusedLong(NO_SUCH);
        }
        int refusal = told.refusalAsRow();
        if (refusal != NOT_REFUSED) {
            return refusedLong(refusal);
        }
        if (told.length > court.said.size() || !told.tellsTrueOrFalse()) {
            return refusedLong(NO_PLACE);
        }
        long fitting = court.mayBe();
        for (int s = 0; s < told.length && s < court.said.size(); s++) {
            long trueWorlds = court.said.get(s).trueWorlds;
            if (!told.isSkipped(s)) {
                fitting &= told.numberAt(s) == 1 ? trueWorlds : ~trueWorlds;
            }
        }
        return fitting;
    }

    public int judge(int d) {
        Shelf told = shelfAt(d);
        if (told == null) {
            return NO_SUCH;
        }
        int refusal = told.refusalAsRow();
        if (refusal != NOT_REFUSED) {
            return refusal;
        }
        long left = court.mayBe();
        for (int place = 0; place < told.length; place++) {
            Saying behind = sayingIn(court.said, place - 1);
            if (behind != null) {
                left &= ~behind.trueWorlds;
            }
            boolean isSo = place <= court.said.size() && told.numberAt(place) == Long.bitCount(left);
            if (!isSo && !told.isSkipped(place)) {
                return place;
            }
        }
        return NONE;
    }

    public int seeds(int n, int z, int what) {
        if (n < 1 || n > 20 || !isEitherOr(what)) {
            return NO_SUCH;
        }
        long mayBe = court.mayBe();
        int seed = z;
        int slipping = 0;
        int leaving = 0;
        for (int k = 0; k < n; k++) {
            long left = mayBe;
            for (int w = 0; w < court.witnesses; w++) {
                long trueWorlds = worldsOfDraws(seed);
                seed = seedAfterDraws(seed);
                slipping += oneIf(hasWorld(trueWorlds, court.truthWorld));
                left &= ~trueWorlds;
            }
            leaving += Long.bitCount(left);
        }
        return what == 0 ? slipping : leaving;
    }

    // ---- the image, what is told

    public int image() {
        kept.becomes(court);
        isKept = true;
        return court.said.size();
    }

    public int restore() {
        if (!isKept) {
            return NOT_AS_IT_MUST;
        }
        court.becomes(kept);
        return court.said.size();
    }

    public int count(int what) {
        switch (what) {
            case 0:
                return court.laws.size();
            case 1:
                return court.witnesses;
            case 2:
                return court.said.size();
            case 3:
                return court.truthWorld;
            case 4:
                return court.wordsSaid();
            case 5:
                return oneIf(hasWorld(court.mayBe(), court.truthWorld));
            case 6:
                return oneIf(hasWorld(court.left(), court.truthWorld));
            default:
                return NO_SUCH;
        }
    }

    // ---- shelves

    public int keep(int d, int what, int k, int figure) {
        Shelf shelf = shelfAt(d);
        if (shelf == null || !isEitherOr(what)) {
            return NO_SUCH;
        }
        if (what == 0) {
            shelf.holdNothing();
            return 0;
        }
        Says kind = kindNumbered(k);
        if (kind == null || figure < 0 || figure >= FIGURES) {
            return NO_SUCH;
        }
        shelf.holdSaying(kind, figure);
        return 0;
    }

    public int row(int d, int sort, int n) {
        Shelf shelf = shelfAt(d);
        if (shelf == null || sort < BYTES || sort > INTS || n > MOST_NUMBERS) {
            return NO_SUCH;
        }
        if (n < 0) {
            return SIZE_BELOW;
        }
        shelf.holdRow(sort, n);
        return 0;
    }

    public int put(int d, int i, int v) {
        Shelf shelf = shelfAt(d);
        if (shelf == null) {
            return NO_SUCH;
        }
        int refusal = shelf.refusalAsRow();
        if (refusal != NOT_REFUSED) {
            return refusal;
        }
        return shelf.setNumber(i, v) ? 0 : NO_PLACE;
    }

    public long element(int d, int i) throws IllegalArgumentException, IllegalStateException {
        Shelf shelf = shelfAt(d);
        if (shelf == null) {
            throw new IllegalArgumentException("no such shelf");
        }
        if (shelf.refusalAsRow() != NOT_REFUSED) {
            throw new IllegalStateException("no row");
        }
        if (!shelf.hasPlaces(i, 1)) {
            throw new IllegalStateException("no such place");
        }
        return shelf.numberAt(i);
    }

    public int copy(int d, int i, int e, int j, int n) {
        Shelf from = shelfAt(d);
        Shelf to = shelfAt(e);
        if (from == null || to == null) {
            return NO_SUCH;
        }
        if (from.isEmpty() || to.isEmpty()) {
            return NOTHING_HELD;
        }
        if (from.refusalAsRow() != NOT_REFUSED || to.refusalAsRow() != NOT_REFUSED || from.sort != to.sort) {
            return OTHER_KIND;
        }
        if (!from.hasPlaces(i, n) || !to.hasPlaces(j, n)) {
            return NO_PLACE;
        }
        System.arraycopy(from.numbers, i, to.numbers, j, n);
        return n;
    }

    public int cost(int d) {
        Shelf shelf = shelfAt(d);
        if (shelf == null) {
            return NO_SUCH;
        }
        int refusal = shelf.refusalAsSaying();
        return refusal != NOT_REFUSED ? refusal : shelf.kind.price(shelf.figure);
    }

    public int toss(int d) {
        Shelf shelf = shelfAt(d);
        if (shelf == null) {
            return NO_SUCH;
        }
        int refusal = shelf.refusalAsSaying();
        if (refusal != NOT_REFUSED) {
            return refusal;
        }
        try {
            shelf.kind.fail(shelf.figure);
        } catch (IllegalStateException failure) {
            return shelf.kind.failure(shelf.figure);
        }
        return NO_FAILURE;
    }

    // ---- ranges, and who stands behind a number

    private static boolean isFact(int fact) {
        return fact >= 0 && fact < FACTS;
    }

    private static boolean areFacts(int bits) {
        return bits >= 0 && bits <= ALL_FACTS;
    }

    private static boolean isWorld(int world) {
        return world >= 0 && world < WORLDS;
    }

    private static boolean isEitherOr(int what) {
        return what == 0 || what == 1;
    }

    private static int oneIf(boolean so) {
        return so ? 1 : 0;
    }

    private static long refusedLong(int refusal) {
        return OF_LONGS - refusal;
    }

    private Shelf shelfAt(int d) {
        return d >= 0 && d < shelves.length ? shelves[d] : null;
    }

    private Says kindNumbered(int k) {
        return k >= 0 && k < kinds.size() ? kinds.get(k) : null;
    }

    private static Saying sayingIn(ArrayList<Saying> sayings, int i) {
        return i >= 0 && i < sayings.size() ? sayings.get(i) : null;
    }

    private static Saying newSaying(int teller, Says kind, int figure, int a, int b) {
        return new Saying(teller, kind, figure, a, b, kind.worldsOf(figure, a, b));
    }

    // ---- sets of worlds, and their facts

    private static long worldsWith(int fact) {
        return fact >= 0 && fact < WORLDS_WITH.length ? WORLDS_WITH[fact] : 0;
    }

    private static int factBit(int fact) {
        return 1 << fact;
    }

    private static boolean hasWorld(long worlds, int world) {
        return (worlds >>> world & 1) != 0;
    }

    private static int factsOfAll(long worlds) {
        int facts = 0;
        for (int fact = 0; fact < FACTS; fact++) {
            if ((worlds & ~worldsWith(fact)) == 0) {
                facts |= factBit(fact);
            }
        }
        return facts;
    }

    private static int factsOfNone(long worlds) {
        int facts = 0;
        for (int fact = 0; fact < FACTS; fact++) {
            if ((worlds & worldsWith(fact)) == 0) {
                facts |= factBit(fact);
            }
        }
        return facts;
    }

    private static int factsAlike(long worlds) {
        return factsOfAll(worlds) | factsOfNone(worlds);
    }

    private static boolean isProvedBy(long left, int fact) {
        return left != 0 && (left & ~worldsWith(fact)) == 0;
    }

    /** Those of some worlds that are as one world in the facts known. */
    private static long likeInKnown(long worlds, int world, int known) {
        long like = worlds;
        for (int fact = 0; fact < FACTS; fact++) {
            if ((known & factBit(fact)) != 0) {
                like &= (world & factBit(fact)) != 0 ? worldsWith(fact) : ~worldsWith(fact);
            }
        }
        return like;
    }

    // ---- the text of a trial

    /** The place of the first byte with which no trial can go on, below 0 if all goes on. */
    private static int brokenPlace(Shelf text) {
        int at = 0;
        do {
            int digits = digitsBehind(text.numberAt(at));
            if (digits < 0) {
                return at;
            }
            for (int k = 1; k <= digits; k++) {
                if (!isDigit(text.numberAt(at + k))) {
                    return at + k;
                }
            }
            at += digits + 1;
            if (text.numberAt(at) != ';') {
                return at;
            }
            at++;
        } while (at < text.length);
        return -1;
    }

    private static int digitsBehind(int letter) {
        switch (letter) {
            case 'l':
                return 4;
            case 'w':
            case 't':
                return 2;
            case 's':
                return 5;
            default:
                return -1;
        }
    }

    private static boolean isDigit(int sign) {
        return sign >= '0' && sign <= '9';
    }

    private static int digitAt(Shelf text, int at) {
        return text.numberAt(at) - '0';
    }

    private static int twoDigitsAt(Shelf text, int at) {
        return 10 * digitAt(text, at) + digitAt(text, at + 1);
    }

    /** Does all the statements of an unbroken text, or none: how many, or the fault. */
    private int enact(Shelf text) {
        tried.becomes(court);
        int statements = 0;
        int at = 0;
        while (at < text.length && statements < MOST_NUMBERS) {
            if (!isEnacted(text, at)) {
                return NO_STATEMENT_HERE - at;
            }
            statements++;
            // The letter and the ";" stand round the digits.
            at += digitsBehind(text.numberAt(at)) + 2;
        }
        court.becomes(tried);
        return statements;
    }

    /** Does the statement at a place, if it is as it must be. */
    private boolean isEnacted(Shelf text, int at) {
        switch (text.numberAt(at)) {
            case 'l':
                return tried.addLaw(sayingAt(text, at + 1, NONE));
            case 'w':
                return tried.addWitness(twoDigitsAt(text, at + 1));
            case 't':
                return tried.setTruth(twoDigitsAt(text, at + 1));
            case 's':
                return tried.addSaid(sayingAt(text, at + 2, digitAt(text, at + 1)));
            default:
                return false;
        }
    }

    /** The saying that is told from a place on; null if a number is out of its range. */
    private Saying sayingAt(Shelf text, int at, int teller) {
        Says kind = kindNumbered(digitAt(text, at));
        int a = digitAt(text, at + 2);
        int b = digitAt(text, at + 3);
        if (kind == null || !isFact(a) || !isFact(b)) {
            return null;
        }
        return newSaying(teller, kind, digitAt(text, at + 1), a, b);
    }

    // ---- orders of witnesses

    /** The order of least digits by which it is plain as soon as can be, after so many witnesses. */
    private int leastOrder(int fewest) {
        int least = NONE;
        for (int set = 0; set < 1 << court.witnesses; set++) {
            if (Integer.bitCount(set) == fewest && court.isPlainBy(set)) {
                int digits = digitsWithAhead(set);
                least = least == NONE ? digits : Math.min(least, digits);
            }
        }
        return least;
    }

    /** The digits of all witnesses, a set of them ahead, each part from the least on. */
    private int digitsWithAhead(int set) {
        return digitsOf(~set, digitsOf(set, 0));
    }

    private int digitsOf(int set, int ahead) {
        int digits = ahead;
        for (int w = 0; w < court.witnesses; w++) {
            if ((set >> w & 1) != 0) {
                digits = 10 * digits + w;
            }
        }
        return digits;
    }

    // ---- sayings that may be lies, numbered by kind, a and b

    private static int kindOfCode(int code) {
        return code / (FACTS * FACTS);
    }

    private static int firstOfCode(int code) {
        return code / FACTS % FACTS;
    }

    private static int secondOfCode(int code) {
        return code % FACTS;
    }

    private long worldsOfCode(int code) {
        Says kind = kindNumbered(kindOfCode(code));
        return kind == null ? 0 : kind.worldsOf(0, firstOfCode(code), secondOfCode(code));
    }

    private boolean isLie(int code, int witness) {
        Says kind = kindNumbered(kindOfCode(code));
        if (kind == null) {
            return false;
        }
        int facts = kind.facts(0, firstOfCode(code), secondOfCode(code));
        return (facts & ~court.knownBy(witness)) == 0 && !hasWorld(worldsOfCode(code), court.truthWorld);
    }

    /** Fills a row with the worlds of each lie of a witness: how many lies. */
    private int fillLies(int witness, long[] lies) {
        int filled = 0;
        // From the last on, as experts, who take nothing away, stand near the end: then few pairs need be tried.
        for (int code = MOST_LIES - 1; code >= 0; code--) {
            if (filled < lies.length && isLie(code, witness)) {
                lies[filled] = worldsOfCode(code);
                filled++;
            }
        }
        return filled;
    }

    private int mostLeft(long left, int ofOther) {
        int most = NONE;
        for (int i = 0; i < ofOther && i < otherLies.length; i++) {
            most = Math.max(most, Long.bitCount(left & ~otherLies[i]));
        }
        return most;
    }

    // ---- twelve men

    private static long power(int base, int times) {
        long product = 1;
        for (int k = 0; k < times; k++) {
            product *= base;
        }
        return product;
    }

    private static long waysToChoose(int men) {
        long ways = 1;
        for (int k = 1; k <= men; k++) {
            ways = ways * (MEN + 1 - k) / k;
        }
        return ways;
    }

    private static long greatestDivisor(long one, long other) {
        long greater = one;
        long lesser = other;
        // Numbers of twelve digits need some sixty steps at most.
        for (int step = 0; step < 100 && lesser != 0; step++) {
            long rest = greater % lesser;
            greater = lesser;
            lesser = rest;
        }
        return greater;
    }

    // ---- draws

    private static int nextSeed(int seed) {
        return seed * 1103515245 + 12345;
    }

    private static int drawnBelow(int n, int seed) {
        return n <= 0 ? 0 : (seed & ALL_BUT_SIGN) / 65536 % n;
    }

    private static int seedAfterDraws(int seed) {
        return nextSeed(nextSeed(nextSeed(nextSeed(seed))));
    }

    /** The worlds in which the saying is true that four draws from a seed on make. */
    private long worldsOfDraws(int seed) {
        int first = nextSeed(seed);
        int second = nextSeed(first);
        int third = nextSeed(second);
        int fourth = nextSeed(third);
        Says kind = kindNumbered(drawnBelow(kinds.size(), first));
        if (kind == null) {
            return 0;
        }
        return kind.worldsOf(drawnBelow(FIGURES, second), drawnBelow(FACTS, third), drawnBelow(FACTS, fourth));
    }

    // ---- kinds of sayings: a class stands under another as its kind does

    private static class Says {
        private final int number;

        Says(int number) {
            this.number = number;
        }

        final long worldsOf(int figure, int a, int b) {
            return trueWorlds(worldsWith(a), worldsWith(b), worldsWith(figure % FACTS));
        }

        /** The worlds in which it is true, by those that have a, have b, have the fact of the figure. */
        long trueWorlds(long withA, long withB, long withFigure) {
            return withA;
        }

        int words(int figure) {
            return 3;
        }

        int facts(int figure, int a, int b) {
            return factBit(a);
        }

        int price(int figure) {
            return 2;
        }

        /** Throws the failure, if there is one. */
        void fail(int figure) {
            if (figure != 0) {
                throw new IllegalStateException("a failure");
            }
        }

        int failure(int figure) {
            return figure;
        }
    }

    private static class Denies extends Says {
        Denies(int number) {
            super(number);
        }

        long trueWorlds(long withA, long withB, long withFigure) {
            return ~withA;
        }

        int words(int figure) {
            return super.words(figure) + 1;
        }

        int price(int figure) {
            return super.price(figure) + 1;
        }
    }

    private static class Both extends Says {
        Both(int number) {
            super(number);
        }

        long trueWorlds(long withA, long withB, long withFigure) {
            return withA & withB;
        }

        int words(int figure) {
            return super.words(figure) + 2;
        }

        int facts(int figure, int a, int b) {
            return super.facts(figure, a, b) | factBit(b);
        }

        int price(int figure) {
            return 2 * super.price(figure);
        }

        int failure(int figure) {
            return super.failure(figure) + 100;
        }
    }

    private static class Either extends Both {
        Either(int number) {
            super(number);
        }

        long trueWorlds(long withA, long withB, long withFigure) {
            return withA | withB;
        }

        int words(int figure) {
            return super.words(figure) + 1;
        }

        int price(int figure) {
            return super.price(figure) + 5;
        }
    }

    private static final class If extends Either {
        If(int number) {
            super(number);
        }

        long trueWorlds(long withA, long withB, long withFigure) {
            return ~withA | withB;
        }

        int words(int figure) {
            return 2 * super.words(figure);
        }

        int price(int figure) {
            return super.price(figure) - 1;
        }
    }

    private static final class Alike extends Both {
        Alike(int number) {
            super(number);
        }

        long trueWorlds(long withA, long withB, long withFigure) {
            return ~(withA ^ withB);
        }

        int words(int figure) {
            return super.words(figure) + 3;
        }

        int price(int figure) {
            return super.price(figure) + figure;
        }
    }

    private static final class Expert extends Denies {
        Expert(int number) {
            super(number);
        }

        long trueWorlds(long withA, long withB, long withFigure) {
            // It says and denies the same.
            return 0;
        }

        int words(int figure) {
            return super.words(figure) + figure;
        }

        int price(int figure) {
            return 10 * super.price(figure);
        }

        void fail(int figure) {
            // Experts have no failure, whatever their figure.
        }
    }

    private static final class Poet extends Either {
        Poet(int number) {
            super(number);
        }

        long trueWorlds(long withA, long withB, long withFigure) {
            return withA | withB | withFigure;
        }

        int words(int figure) {
            return super.words(figure) + figure;
        }

        int facts(int figure, int a, int b) {
            return super.facts(figure, a, b) | factBit(figure % FACTS);
        }

        int price(int figure) {
            return super.price(figure) + figure;
        }

        int failure(int figure) {
            return 200 + price(figure);
        }
    }

    /** A saying about two facts, and who said it (nobody, if it is a law). Never changed once made. */
    private static final class Saying {
        private final int teller;
        private final Says kind;
        private final int figure;
        private final int a;
        private final int b;
        private final long trueWorlds;

        Saying(int teller, Says kind, int figure, int a, int b, long trueWorlds) {
            this.teller = teller;
            this.kind = kind;
            this.figure = figure;
            this.a = a;
            this.b = b;
            this.trueWorlds = trueWorlds;
        }

        int told(int what) {
            switch (what) {
                case 0:
                    return kind.number;
                case 1:
                    return figure;
                case 2:
                    return a;
                case 3:
                    return b;
                case 4:
                    return words();
                default:
                    return facts();
            }
        }

        int words() {
            return kind.words(figure);
        }

        int facts() {
            return kind.facts(figure, a, b);
        }
    }

    /** What an image keeps: laws, witnesses, what is said, the truth. */
    private static final class Trial {
        private final ArrayList<Saying> laws = new ArrayList<>();
        private final ArrayList<Saying> said = new ArrayList<>();
        private final int[] known = new int[MOST_WITNESSES];
        private int witnesses;
        private int truthWorld;

        void becomes(Trial other) {
            refill(laws, other.laws);
            refill(said, other.said);
            for (int w = 0; w < known.length; w++) {
                known[w] = other.knownBy(w);
            }
            witnesses = other.witnesses;
            truthWorld = other.truthWorld;
        }

        private static void refill(ArrayList<Saying> sayings, ArrayList<Saying> others) {
            sayings.clear();
            for (int i = 0; i < others.size(); i++) {
                sayings.add(others.get(i));
            }
        }

        boolean hasWitness(int w) {
            return w >= 0 && w < witnesses;
        }

        int knownBy(int w) {
            return w >= 0 && w < known.length ? known[w] : 0;
        }

        boolean addLaw(Saying saying) {
            if (saying == null || laws.size() >= MOST_LAWS) {
                return false;
            }
            laws.add(saying);
            return true;
        }

        boolean addSaid(Saying saying) {
            if (saying == null || !hasWitness(saying.teller) || said.size() >= MOST_SAID) {
                return false;
            }
            said.add(saying);
            return true;
        }

        boolean addWitness(int knows) {
            if (!areFacts(knows) || witnesses < 0 || witnesses >= known.length) {
                return false;
            }
            known[witnesses] = knows;
            witnesses++;
            return true;
        }

        boolean setTruth(int world) {
            if (!isWorld(world)) {
                return false;
            }
            truthWorld = world;
            return true;
        }

        long mayBe() {
            long worlds = -1;
            for (int i = 0; i < laws.size(); i++) {
                worlds &= laws.get(i).trueWorlds;
            }
            return worlds;
        }

        long left() {
            return leftBySaid(mayBe(), -1);
        }

        long mayBeOrLeft(int what) {
            return what == 0 ? mayBe() : left();
        }

        /** What is left of some worlds if those of a set of what is said are false. */
        long leftBySaid(long worlds, int set) {
            long left = worlds;
            for (int s = 0; s < said.size(); s++) {
                if ((set >> s & 1) != 0) {
                    left &= ~said.get(s).trueWorlds;
                }
            }
            return left;
        }

        /** What is left of the worlds that may be, if all is false that a set of witnesses said. */
        long leftByTellers(int set) {
            int saidByThem = 0;
            for (int s = 0; s < said.size(); s++) {
                if ((set >> said.get(s).teller & 1) != 0) {
                    saidByThem |= 1 << s;
                }
            }
            return leftBySaid(mayBe(), saidByThem);
        }

        boolean isPlainBy(int tellers) {
            return Long.bitCount(leftByTellers(tellers)) <= 1;
        }

        /** What is said that is true in a world (bits). */
        int trueOnes(int world) {
            int ones = 0;
            for (int s = 0; s < said.size(); s++) {
                if (hasWorld(said.get(s).trueWorlds, world)) {
                    ones |= 1 << s;
                }
            }
            return ones;
        }

        int wordsSaid() {
            int words = 0;
            for (int s = 0; s < said.size(); s++) {
                words += said.get(s).words();
            }
            return words;
        }

        /** Some worlds, and those of the left that a witness takes for one of them. */
        long reachedFrom(long worlds, long left) {
            long reached = worlds;
            for (int world = 0; world < WORLDS; world++) {
                for (int w = 0; w < witnesses && hasWorld(worlds, world); w++) {
                    reached |= likeInKnown(left, world, knownBy(w));
                }
            }
            return reached;
        }
    }

    /** Holds nothing, a saying's kind with its figure, or a row; its numbers are made once and used again. */
    private static final class Shelf {
        private static final int NOTHING = 0;
        private static final int SAYING = 1;
        private static final int ROW = 2;

        private final int[] numbers = new int[MOST_NUMBERS];
        private int holds;
        private Says kind;
        private int figure;
        private int sort;
        private int length;

        Shelf(Says kind) {
            this.kind = kind;
        }

        void holdNothing() {
            holds = NOTHING;
        }

        void holdSaying(Says newKind, int newFigure) {
            holds = SAYING;
            kind = newKind;
            figure = newFigure;
        }

        void holdRow(int newSort, int newLength) {
            holds = ROW;
            sort = newSort;
            length = newLength;
            for (int i = 0; i < numbers.length; i++) {
                numbers[i] = 0;
            }
        }

        boolean isEmpty() {
            return holds == NOTHING;
        }

        int refusalAsSaying() {
            return refusalUnless(SAYING);
        }

        int refusalAsRow() {
            return refusalUnless(ROW);
        }

        private int refusalUnless(int wanted) {
            if (holds == wanted) {
                return NOT_REFUSED;
            }
            return isEmpty() ? NOTHING_HELD : OTHER_KIND;
        }

        long worldsOf(int a, int b) {
            return kind.worldsOf(figure, a, b);
        }

        /** Whether the row has n places from i on. */
        boolean hasPlaces(int i, int n) {
            return i >= 0 && n >= 0 && n <= length && i <= length - n && length <= numbers.length;
        }

        /** The number at a place; 0, which is no sign of a text, where there is none. */
        int numberAt(int i) {
            return hasPlaces(i, 1) ? numbers[i] : 0;
        }

        boolean setNumber(int i, int v) {
            if (!hasPlaces(i, 1)) {
                return false;
            }
            numbers[i] = lowestBits(v);
            return true;
        }

        private int lowestBits(int v) {
            if (sort == BYTES) {
                return (byte) v;
            }
            return sort == SHORTS ? (short) v : v;
        }

        boolean isSkipped(int i) {
            if (sort == BYTES) {
                return numberAt(i) == -128;
            }
            return numberAt(i) == (sort == SHORTS ? -32768 : -2147483648);
        }

        /** Whether each number is a 0, a 1 or skipped. */
        boolean tellsTrueOrFalse() {
            for (int i = 0; i < length; i++) {
                int number = numberAt(i);
                if (number != 0 && number != 1 && !isSkipped(i)) {
                    return false;
                }
            }
            return true;
        }
    }
}
