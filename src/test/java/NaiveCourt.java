import java.util.ArrayList;
import java.util.List;
import java.util.Set;
import java.util.TreeSet;

/**
 * The document once more, in its plainest words: worlds one by one, sets of numbers, all orders tried. Slow, and written
 * without a look at the program, to be compared with it.
 */
final class NaiveCourt {
    private static final long OF_LONGS = 4000000000000000000L;

    static final class Told {
        final int kind;
        final int figure;
        final int a;
        final int b;
        final int teller;

        Told(int kind, int figure, int a, int b, int teller) {
            this.kind = kind;
            this.figure = figure;
            this.a = a;
            this.b = b;
            this.teller = teller;
        }

        boolean isTrue(int world) {
            return NaiveCourt.isTrueIn(kind, figure, a, b, world);
        }
    }

    private static final class State {
        List<Told> laws = new ArrayList<>();
        List<Told> said = new ArrayList<>();
        List<Integer> known = new ArrayList<>();
        int truth = 0;

        State twin() {
            State twin = new State();
            twin.laws.addAll(laws);
            twin.said.addAll(said);
            twin.known.addAll(known);
            twin.truth = truth;
            return twin;
        }
    }

    private State now = new State();
    private State imaged = null;
    private final int[] holds = new int[8];
    private final int[] keptKind = new int[8];
    private final int[] keptFigure = new int[8];
    private final int[] sort = new int[8];
    private final long[][] rows = new long[8][];

    private static boolean has(int world, int fact) {
        return (world >> fact & 1) == 1;
    }

    static boolean isTrueIn(int kind, int figure, int a, int b, int w) {
        switch (kind) {
            case 0: return has(w, a);
            case 1: return !isTrueIn(0, figure, a, b, w);
            case 2: return isTrueIn(0, figure, a, b, w) && has(w, b);
            case 3: return isTrueIn(2, figure, a, b, w) || has(w, a) != has(w, b);
            case 4: return has(w, b) || !has(w, a);
            case 5: return isTrueIn(2, figure, a, b, w) || !has(w, a) && !has(w, b);
            case 6: return isTrueIn(1, figure, a, b, w) && isTrueIn(0, figure, a, b, w);
            default: return isTrueIn(3, figure, a, b, w) || has(w, figure % 6);
        }
    }

    private static int size(int kind, int figure) {
        switch (kind) {
            case 0: return 3;
            case 1: return size(0, figure) + 1;
            case 2: return size(0, figure) + 2;
            case 3: return size(2, figure) + 1;
            case 4: return size(3, figure) * 2;
            case 5: return size(2, figure) + 3;
            case 6: return size(1, figure) + figure;
            default: return size(3, figure) + figure;
        }
    }

    private static int about(int kind, int figure, int a, int b) {
        if (kind == 0 || kind == 1 || kind == 6) {
            return 1 << a;
        }
        return 1 << a | 1 << b | (kind == 7 ? 1 << figure % 6 : 0);
    }

    private static int costOf(int kind, int figure) {
        return new int[] {2, 3, 4, 9, 8, 4 + figure, 30, 9 + figure}[kind];
    }

    private Set<Integer> mayBe() {
        Set<Integer> worlds = new TreeSet<>();
        for (int w = 0; w < 64; w++) {
            boolean all = true;
            for (Told law : now.laws) {
                all &= law.isTrue(w);
            }
            if (all) {
                worlds.add(w);
            }
        }
        return worlds;
    }

    /** Of worlds that may be, those in which all is false that is said by these (of the set of numbers of said). */
    private Set<Integer> leftBy(Set<Integer> numbers) {
        Set<Integer> worlds = new TreeSet<>();
        for (int w : mayBe()) {
            boolean allFalse = true;
            for (int s : numbers) {
                allFalse &= !now.said.get(s).isTrue(w);
            }
            if (allFalse) {
                worlds.add(w);
            }
        }
        return worlds;
    }

    private Set<Integer> allSaid() {
        Set<Integer> numbers = new TreeSet<>();
        for (int s = 0; s < now.said.size(); s++) {
            numbers.add(s);
        }
        return numbers;
    }

    private Set<Integer> saidBy(Set<Integer> tellers) {
        Set<Integer> numbers = new TreeSet<>();
        for (int s = 0; s < now.said.size(); s++) {
            if (tellers.contains(now.said.get(s).teller)) {
                numbers.add(s);
            }
        }
        return numbers;
    }

    private Set<Integer> left() {
        return leftBy(allSaid());
    }

    private static Set<Integer> setOf(int bits) {
        Set<Integer> set = new TreeSet<>();
        for (int i = 0; i < 31; i++) {
            if ((bits >> i & 1) == 1) {
                set.add(i);
            }
        }
        return set;
    }

    private static long bitsOf(Set<Integer> worlds) {
        long bits = 0;
        for (int w : worlds) {
            bits |= 1L << w;
        }
        return bits;
    }

    private boolean isShelf(int d) {
        return d >= 0 && d < 8;
    }

    private boolean isWitness(int w) {
        return w >= 0 && w < now.known.size();
    }

    private static boolean within(int number, int least, int most) {
        return number >= least && number <= most;
    }

    private int notASaying(int d) {
        return holds[d] == 0 ? -11 : holds[d] == 2 ? -12 : 0;
    }

    private int notARow(int d) {
        return holds[d] == 0 ? -11 : holds[d] == 1 ? -12 : 0;
    }

    int trial(int d) {
        if (!isShelf(d)) {
            return -1;
        }
        if (notARow(d) != 0) {
            return notARow(d);
        }
        if (sort[d] != 0) {
            return -12;
        }
        StringBuilder builder = new StringBuilder();
        for (long sign : rows[d]) {
            builder.append((char) (sign & 0xff));
        }
        String text = builder.toString();
        int fault = longestStart(text);
        if (fault >= 0) {
            return -1000 - fault;
        }
        State before = now.twin();
        int at = 0;
        int statements = 0;
        for (String statement : text.split(";")) {
            if (!does(statement)) {
                now = before;
                return -2000 - at;
            }
            at += statement.length() + 1;
            statements++;
        }
        return statements;
    }

    /** How long the longest start of a text is that some text of statements starts with; -1 if it is a text itself. */
    private static int longestStart(String text) {
        String statement = "(l[0-9]{4};|w[0-9]{2};|t[0-9]{2};|s[0-9]{5};)";
        if (text.matches(statement + "+")) {
            return -1;
        }
        String begun = "(l[0-9]{0,4}|w[0-9]{0,2}|t[0-9]{0,2}|s[0-9]{0,5}|)";
        for (int n = text.length(); n > 0; n--) {
            if (text.substring(0, n).matches(statement + "*" + begun)) {
                return n;
            }
        }
        return 0;
    }

    private boolean does(String statement) {
        String digits = statement.substring(1);
        if (statement.charAt(0) == 'w') {
            return witness(Integer.parseInt(digits)) >= 0;
        }
        if (statement.charAt(0) == 't') {
            return truth(Integer.parseInt(digits)) >= 0;
        }
        boolean isLaw = statement.charAt(0) == 'l';
        int teller = isLaw ? 0 : digits.charAt(0) - '0';
        String rest = isLaw ? digits : digits.substring(1);
        Told told = new Told(rest.charAt(0) - '0', rest.charAt(1) - '0', rest.charAt(2) - '0', rest.charAt(3) - '0', teller);
        if (told.kind > 7 || told.a > 5 || told.b > 5 || !isLaw && !isWitness(teller)) {
            return false;
        }
        List<Told> list = isLaw ? now.laws : now.said;
        if (list.size() == (isLaw ? 6 : 10)) {
            return false;
        }
        return list.add(told);
    }

    private int told(Told told, int what) {
        return new int[] {told.kind, told.figure, told.a, told.b, size(told.kind, told.figure),
            about(told.kind, told.figure, told.a, told.b), told.teller, told.isTrue(now.truth) ? 1 : 0}[what];
    }

    int law(int law, int what) {
        return !within(law, 0, now.laws.size() - 1) || !within(what, 0, 5) ? -1 : told(now.laws.get(law), what);
    }

    int said(int s, int what) {
        return !within(s, 0, now.said.size() - 1) || !within(what, 0, 7) ? -1 : told(now.said.get(s), what);
    }

    int knows(int witness) {
        return isWitness(witness) ? now.known.get(witness) : -1;
    }

    int isTrue(int d, int a, int b, int world) {
        if (!isShelf(d) || !within(a, 0, 5) || !within(b, 0, 5) || !within(world, 0, 63)) {
            return -1;
        }
        if (notASaying(d) != 0) {
            return notASaying(d);
        }
        return isTrueIn(keptKind[d], keptFigure[d], a, b, world) ? 1 : 0;
    }

    int rules(int d, int a, int b) {
        if (!isShelf(d) || !within(a, 0, 5) || !within(b, 0, 5)) {
            return -1;
        }
        if (notASaying(d) != 0) {
            return notASaying(d);
        }
        if (now.laws.size() == 6) {
            return -2;
        }
        now.laws.add(new Told(keptKind[d], keptFigure[d], a, b, 0));
        return now.laws.size() - 1;
    }

    int says(int witness, int d, int a, int b) {
        if (!isWitness(witness) || !isShelf(d) || !within(a, 0, 5) || !within(b, 0, 5)) {
            return -1;
        }
        if (notASaying(d) != 0) {
            return notASaying(d);
        }
        if (now.said.size() == 10) {
            return -2;
        }
        now.said.add(new Told(keptKind[d], keptFigure[d], a, b, witness));
        return now.said.size() - 1;
    }

    int unsays() {
        if (now.said.isEmpty()) {
            return -3;
        }
        now.said.remove(now.said.size() - 1);
        return now.said.size();
    }

    int witness(int knows) {
        if (!within(knows, 0, 63)) {
            return -1;
        }
        if (now.known.size() == 5) {
            return -2;
        }
        now.known.add(knows);
        return now.known.size() - 1;
    }

    int truth(int world) {
        if (!within(world, 0, 63)) {
            return -1;
        }
        int was = now.truth;
        now.truth = world;
        return was;
    }

    long worlds(int what) {
        return what == 0 ? bitsOf(mayBe()) : what == 1 ? bitsOf(left()) : OF_LONGS + 1;
    }

    int many(int what) {
        return what == 0 ? mayBe().size() : what == 1 ? left().size() : -1;
    }

    int proved(int what) {
        if (!within(what, 0, 1)) {
            return -1;
        }
        int facts = 63;
        for (int w : left()) {
            facts &= what == 0 ? w : ~w;
        }
        return facts;
    }

    int slips(int what) {
        if (!within(what, 0, 1)) {
            return -1;
        }
        int bits = 0;
        int first = -4;
        for (int s = now.said.size() - 1; s >= 0; s--) {
            if (now.said.get(s).isTrue(now.truth)) {
                bits |= 1 << s;
                first = s;
            }
        }
        return what == 0 ? bits : first;
    }

    int alone(int s) {
        return within(s, 0, now.said.size() - 1) ? leftBy(Set.of(s)).size() : -1;
    }

    int clash() {
        for (int i = 0; i < now.said.size(); i++) {
            for (int j = i + 1; j < now.said.size(); j++) {
                if (leftBy(Set.of(i, j)).isEmpty() && !leftBy(Set.of(i)).isEmpty() && !leftBy(Set.of(j)).isEmpty()) {
                    return 10 * i + j;
                }
            }
        }
        return -4;
    }

    int proof(int fact) {
        if (!within(fact, 0, 5)) {
            return -1;
        }
        for (int size = 0; size <= now.said.size(); size++) {
            for (int set = 0; set < 1 << now.said.size(); set++) {
                if (Integer.bitCount(set) != size) {
                    continue;
                }
                Set<Integer> left = leftBy(setOf(set));
                boolean all = !left.isEmpty();
                for (int w : left) {
                    all &= has(w, fact);
                }
                if (all) {
                    return set;
                }
            }
        }
        return -4;
    }

    int slipped() {
        for (int size = 0; size <= now.said.size(); size++) {
            for (int set = 0; set < 1 << now.said.size(); set++) {
                if (Integer.bitCount(set) == size && someWorldWithJust(set)) {
                    return set;
                }
            }
        }
        return -4;
    }

    private boolean someWorldWithJust(int set) {
        for (int w : mayBe()) {
            boolean just = true;
            for (int s = 0; s < now.said.size(); s++) {
                just &= now.said.get(s).isTrue(w) == ((set >> s & 1) == 1);
            }
            if (just) {
                return true;
            }
        }
        return false;
    }

    int ask() {
        Set<Integer> left = left();
        if (left.isEmpty()) {
            return -4;
        }
        int best = -1;
        int asked = -4;
        for (int fact = 0; fact < 6; fact++) {
            int with = 0;
            for (int w : left) {
                with += has(w, fact) ? 1 : 0;
            }
            int lesser = Math.min(with, left.size() - with);
            if (lesser > best) {
                best = lesser;
                asked = fact;
            }
        }
        return asked;
    }

    int plain() {
        for (int size = 0; size <= now.known.size(); size++) {
            for (int set = 0; set < 1 << now.known.size(); set++) {
                if (Integer.bitCount(set) == size && leftBy(saidBy(setOf(set))).size() <= 1) {
                    return set;
                }
            }
        }
        return -4;
    }

    int order(int what) {
        if (!within(what, 0, 1)) {
            return -1;
        }
        if (now.known.isEmpty()) {
            return -3;
        }
        List<List<Integer>> orders = new ArrayList<>();
        allOrders(new ArrayList<>(), orders);
        int fewest = 99;
        int digits = -4;
        for (List<Integer> order : orders) {
            int must = mustCome(order);
            int number = 0;
            for (int w : order) {
                number = 10 * number + w;
            }
            if (must < fewest || must == fewest && must < 99 && number < digits) {
                fewest = must;
                digits = number;
            }
        }
        return fewest == 99 ? -4 : what == 0 ? fewest : digits;
    }

    private void allOrders(List<Integer> begun, List<List<Integer>> orders) {
        if (begun.size() == now.known.size()) {
            orders.add(begun);
        }
        for (int w = 0; w < now.known.size(); w++) {
            if (!begun.contains(w)) {
                List<Integer> longer = new ArrayList<>(begun);
                longer.add(w);
                allOrders(longer, orders);
            }
        }
    }

    private int mustCome(List<Integer> order) {
        for (int come = 0; come <= order.size(); come++) {
            if (leftBy(saidBy(new TreeSet<>(order.subList(0, come)))).size() <= 1) {
                return come;
            }
        }
        return 99;
    }

    int without(int witness) {
        if (!isWitness(witness)) {
            return -1;
        }
        Set<Integer> others = new TreeSet<>();
        for (int w = 0; w < now.known.size(); w++) {
            if (w != witness) {
                others.add(w);
            }
        }
        return leftBy(saidBy(others)).size() - left().size();
    }

    private List<Told> liesOf(int witness) {
        List<Told> lies = new ArrayList<>();
        for (int kind = 0; kind < 8; kind++) {
            for (int a = 0; a < 6; a++) {
                for (int b = 0; b < 6; b++) {
                    boolean knowsAll = (about(kind, 0, a, b) | now.known.get(witness)) == now.known.get(witness);
                    if (knowsAll && !isTrueIn(kind, 0, a, b, now.truth)) {
                        lies.add(new Told(kind, 0, a, b, witness));
                    }
                }
            }
        }
        return lies;
    }

    private static int falseIn(Set<Integer> worlds, Told... sayings) {
        int many = 0;
        for (int w : worlds) {
            boolean allFalse = true;
            for (Told saying : sayings) {
                allFalse &= !saying.isTrue(w);
            }
            many += allFalse ? 1 : 0;
        }
        return many;
    }

    int lie(int witness, int what) {
        if (!isWitness(witness) || !within(what, 0, 2)) {
            return -1;
        }
        Set<Integer> left = left();
        List<Told> lies = liesOf(witness);
        int most = -4;
        int best = -4;
        for (Told lie : lies) {
            int many = falseIn(left, lie);
            if (many > most) {
                most = many;
                best = 100 * lie.kind + 10 * lie.a + lie.b;
            }
        }
        return what == 0 ? lies.size() : what == 1 ? best : most;
    }

    int twoLies(int one, int other) {
        if (!isWitness(one) || !isWitness(other) || one == other) {
            return -1;
        }
        Set<Integer> left = left();
        int most = -4;
        for (Told first : liesOf(one)) {
            for (Told second : liesOf(other)) {
                most = Math.max(most, falseIn(left, first, second));
            }
        }
        return most;
    }

    int tells(int d, int a, int b) {
        if (!isShelf(d) || !within(a, 0, 5) || !within(b, 0, 5)) {
            return -1;
        }
        if (notASaying(d) != 0) {
            return notASaying(d);
        }
        Set<Integer> left = left();
        return left.size() - falseIn(left, new Told(keptKind[d], keptFigure[d], a, b, 0));
    }

    int verdict() {
        int facts = 0;
        for (int fact = 0; fact < 6; fact++) {
            boolean nobody = has(now.truth, fact);
            for (Told told : now.said) {
                nobody &= !setOf(about(told.kind, told.figure, told.a, told.b)).contains(fact);
            }
            facts |= nobody ? 1 << fact : 0;
        }
        return facts;
    }

    private boolean alikeTo(int witness, int world, int other) {
        for (int fact : setOf(now.known.get(witness))) {
            if (has(world, fact) != has(other, fact)) {
                return false;
            }
        }
        return true;
    }

    private boolean isCertain(int witness, int fact, int truth, Set<Integer> left) {
        boolean with = false;
        boolean less = false;
        for (int w : left) {
            if (alikeTo(witness, w, truth)) {
                with |= has(w, fact);
                less |= !has(w, fact);
            }
        }
        return !(with && less);
    }

    int certain(int witness) {
        if (!isWitness(witness)) {
            return -1;
        }
        Set<Integer> left = left();
        int facts = 0;
        for (int fact = 0; fact < 6; fact++) {
            facts |= isCertain(witness, fact, now.truth, left) ? 1 << fact : 0;
        }
        return facts;
    }

    int knowsOf(int one, int other) {
        if (!isWitness(one) || !isWitness(other)) {
            return -1;
        }
        Set<Integer> left = left();
        int facts = 0;
        for (int fact = 0; fact < 6; fact++) {
            boolean always = true;
            for (int w : left) {
                always &= !alikeTo(one, w, now.truth) || isCertain(other, fact, w, left);
            }
            facts |= always ? 1 << fact : 0;
        }
        return facts;
    }

    int allKnow(int n) {
        if (!within(n, 0, 5)) {
            return -1;
        }
        if (now.known.isEmpty()) {
            return -3;
        }
        Set<Integer> left = left();
        int facts = 0;
        for (int fact = 0; fact < 6; fact++) {
            facts |= staysSo(fact, now.truth, n + 1, left, new TreeSet<>()) ? 1 << fact : 0;
        }
        return facts;
    }

    /** Whether a fact is as in the truth in all worlds to which so many steps lead. */
    private boolean staysSo(int fact, int world, int steps, Set<Integer> left, Set<Integer> tried) {
        if (has(world, fact) != has(now.truth, fact)) {
            return false;
        }
        if (steps == 0 || !tried.add(64 * steps + world)) {
            return true;
        }
        for (int w : left) {
            for (int witness = 0; witness < now.known.size(); witness++) {
                if (alikeTo(witness, w, world) && !staysSo(fact, w, steps - 1, left, tried)) {
                    return false;
                }
            }
        }
        return true;
    }

    long pencils(int t, int n, int part) {
        if (!within(t, 1, 9) || !within(n, 0, 12) || !within(part, 0, 1)) {
            return OF_LONGS + 1;
        }
        // How likely k men get it right, a man more at a time, in units of ten to the men's number.
        long[] likely = new long[13];
        likely[0] = 1;
        for (int man = 1; man <= 12; man++) {
            for (int k = man; k >= 0; k--) {
                likely[k] = likely[k] * (10 - t) + (k > 0 ? likely[k - 1] * t : 0);
            }
        }
        long above = 0;
        for (int k = n; k <= 12; k++) {
            above += likely[k];
        }
        long below = 1000000000000L;
        for (int prime : new int[] {2, 5}) {
            while (above % prime == 0 && below % prime == 0) {
                above /= prime;
                below /= prime;
            }
        }
        return part == 0 ? above : below;
    }

    private long leastOf(int d) {
        return sort[d] == 0 ? Byte.MIN_VALUE : sort[d] == 1 ? Short.MIN_VALUE : Integer.MIN_VALUE;
    }

    long fits(int d) {
        if (!isShelf(d)) {
            return OF_LONGS + 1;
        }
        if (notARow(d) != 0) {
            return OF_LONGS - notARow(d);
        }
        long[] row = rows[d];
        if (row.length > now.said.size()) {
            return OF_LONGS + 13;
        }
        for (long number : row) {
            if (number != 0 && number != 1 && number != leastOf(d)) {
                return OF_LONGS + 13;
            }
        }
        Set<Integer> worlds = new TreeSet<>();
        for (int w : mayBe()) {
            boolean just = true;
            for (int s = 0; s < row.length; s++) {
                just &= row[s] == leastOf(d) || now.said.get(s).isTrue(w) == (row[s] == 1);
            }
            if (just) {
                worlds.add(w);
            }
        }
        return bitsOf(worlds);
    }

    int judge(int d) {
        if (!isShelf(d)) {
            return -1;
        }
        if (notARow(d) != 0) {
            return notARow(d);
        }
        for (int place = 0; place < rows[d].length; place++) {
            if (rows[d][place] == leastOf(d)) {
                continue;
            }
            if (place > now.said.size() || rows[d][place] != leftBehind(place)) {
                return place;
            }
        }
        return -4;
    }

    int leftBehind(int place) {
        Set<Integer> numbers = new TreeSet<>();
        for (int s = 0; s < place; s++) {
            numbers.add(s);
        }
        return leftBy(numbers).size();
    }

    private int seed;

    private int draw(int n) {
        seed = (int) (seed * 1103515245L + 12345L);
        return (seed < 0 ? seed + 1 + Integer.MAX_VALUE : seed) / 65536 % n;
    }

    int seeds(int n, int z, int what) {
        if (!within(n, 1, 20) || !within(what, 0, 1)) {
            return -1;
        }
        State before = now;
        seed = z;
        int slips = 0;
        int left = 0;
        for (int trial = 0; trial < n; trial++) {
            now = before.twin();
            now.said.clear();
            for (int w = 0; w < now.known.size(); w++) {
                int kind = draw(8);
                int figure = draw(10);
                int a = draw(6);
                int b = draw(6);
                now.said.add(new Told(kind, figure, a, b, w));
            }
            slips += Integer.bitCount(slips(0));
            left += many(1);
        }
        now = before;
        return what == 0 ? slips : left;
    }

    int image() {
        imaged = now.twin();
        return now.said.size();
    }

    int restore() {
        if (imaged == null) {
            return -3;
        }
        now = imaged.twin();
        return now.said.size();
    }

    int count(int what) {
        int words = 0;
        for (Told told : now.said) {
            words += size(told.kind, told.figure);
        }
        int mayBe = mayBe().contains(now.truth) ? 1 : 0;
        int isLeft = left().contains(now.truth) ? 1 : 0;
        int[] counts = {now.laws.size(), now.known.size(), now.said.size(), now.truth, words, mayBe, isLeft};
        return within(what, 0, 6) ? counts[what] : -1;
    }

    int keep(int d, int what, int k, int figure) {
        if (!isShelf(d) || !within(what, 0, 1) || what == 1 && (!within(k, 0, 7) || !within(figure, 0, 9))) {
            return -1;
        }
        holds[d] = what;
        keptKind[d] = k;
        keptFigure[d] = figure;
        return 0;
    }

    int row(int d, int newSort, int n) {
        if (!isShelf(d) || !within(newSort, 0, 2) || n > 100) {
            return -1;
        }
        if (n < 0) {
            return -14;
        }
        holds[d] = 2;
        sort[d] = newSort;
        rows[d] = new long[n];
        return 0;
    }

    int put(int d, int i, int v) {
        if (!isShelf(d)) {
            return -1;
        }
        if (notARow(d) != 0) {
            return notARow(d);
        }
        if (!within(i, 0, rows[d].length - 1)) {
            return -13;
        }
        int bits = sort[d] == 0 ? 8 : sort[d] == 1 ? 16 : 32;
        rows[d][i] = (long) v << 64 - bits >> 64 - bits;
        return 0;
    }

    long element(int d, int i) {
        if (!isShelf(d)) {
            throw new IllegalArgumentException();
        }
        if (notARow(d) != 0 || !within(i, 0, rows[d].length - 1)) {
            throw new IllegalStateException();
        }
        return rows[d][i];
    }

    int copy(int d, int i, int e, int j, int n) {
        if (!isShelf(d) || !isShelf(e)) {
            return -1;
        }
        if (holds[d] == 0 || holds[e] == 0) {
            return -11;
        }
        if (holds[d] == 1 || holds[e] == 1 || sort[d] != sort[e]) {
            return -12;
        }
        if (n < 0 || i < 0 || j < 0 || (long) i + n > rows[d].length || (long) j + n > rows[e].length) {
            return -13;
        }
        long[] taken = rows[d].clone();
        for (int k = 0; k < n; k++) {
            rows[e][j + k] = taken[i + k];
        }
        return n;
    }

    int cost(int d) {
        if (!isShelf(d)) {
            return -1;
        }
        return notASaying(d) != 0 ? notASaying(d) : costOf(keptKind[d], keptFigure[d]);
    }

    int toss(int d) {
        if (!isShelf(d)) {
            return -1;
        }
        if (notASaying(d) != 0) {
            return notASaying(d);
        }
        int kind = keptKind[d];
        int figure = keptFigure[d];
        if (kind == 6 || figure == 0) {
            return -15;
        }
        return kind == 7 ? 200 + costOf(kind, figure) : kind < 2 ? figure : 100 + figure;
    }
}
