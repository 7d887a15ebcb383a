/** Each number of each call: its least and its greatest are taken, what lies outside is refused. */
final class RangeTests extends CourtTests {
    private static final long NO_SUCH = -1;
    private static final long NO_SUCH_LONG = OF_LONGS + 1;

    private interface Call {
        long with(int number);
    }

    RangeTests(Checks checks) {
        super(checks);
    }

    void runAll() {
        someOfEach();
        fullOfEach();
        noneOfEach();
        facts();
        worldsAndTruths();
        whats();
        depthsAndTrials();
        shelves();
        growing();
    }

    /** The numbers from the least to the greatest are not refused as no such ones, those beside them are. */
    private void ranged(String call, int least, int greatest, long refused, Call asked) {
        taken(call, least, refused, asked);
        taken(call, greatest, refused, asked);
        due(call + " of " + (least - 1), asked.with(least - 1), refused);
        due(call + " of " + (greatest + 1), asked.with(greatest + 1), refused);
        due(call + " of LEAST", asked.with(LEAST), refused);
        due(call + " of GREATEST", asked.with(GREATEST), refused);
    }

    private void taken(String call, int number, long refused, Call asked) {
        long answer = asked.with(number);
        due(call + " of " + number + " is refused (1)", answer == refused ? 1 : 0, 0);
    }

    private void noneSuch(String call, Call asked) {
        for (int number = -1; number <= 10; number++) {
            due(call + " of " + number, asked.with(number), NO_SUCH);
        }
        due(call + " of LEAST", asked.with(LEAST), NO_SUCH);
        due(call + " of GREATEST", asked.with(GREATEST), NO_SUCH);
    }

    private void someOfEach() {
        begin("ranges, two laws, three witnesses, four said");
        tell("l3001;l4023;w07;w01;w56;s00101;s11011;s27834;s01022;t05;");
        ofLawsAndSaid(2, 4);
        ofWitnesses(3);
    }

    private void fullOfEach() {
        begin("ranges, full");
        tell("l0000;l0000;l0000;l0000;l0000;l0000;w01;w02;w03;w04;w63;");
        tell("s00000;s00000;s00000;s00000;s00000;s00000;s00000;s00000;s00000;s00000;");
        ofLawsAndSaid(6, 10);
        ofWitnesses(5);
    }

    private void ofLawsAndSaid(int laws, int said) {
        ranged("law", 0, laws - 1, NO_SUCH, law -> x.law(law, 0));
        ranged("said", 0, said - 1, NO_SUCH, s -> x.said(s, 0));
        ranged("alone", 0, said - 1, NO_SUCH, s -> x.alone(s));
    }

    private void ofWitnesses(int witnesses) {
        int last = witnesses - 1;
        x.keep(1, 1, 0, 0);
        ranged("knows", 0, last, NO_SUCH, w -> x.knows(w));
        ranged("says", 0, last, NO_SUCH, w -> x.says(w, 1, 0, 0));
        ranged("without", 0, last, NO_SUCH, w -> x.without(w));
        for (int what = 0; what <= 2; what++) {
            int asked = what;
            ranged("lie, what " + what, 0, last, NO_SUCH, w -> x.lie(w, asked));
        }
        ranged("certain", 0, last, NO_SUCH, w -> x.certain(w));
        ranged("knowsOf, one", 0, last, NO_SUCH, w -> x.knowsOf(w, 0));
        ranged("knowsOf, the other", 0, last, NO_SUCH, w -> x.knowsOf(last, w));
        ranged("twoLies, one", 0, last - 1, NO_SUCH, w -> w == last ? NO_SUCH : x.twoLies(w, last));
        ranged("twoLies, the other", 1, last, NO_SUCH, w -> x.twoLies(0, w));
        due("twoLies, one twice", x.twoLies(last, last), -1);
    }

    private void noneOfEach() {
        begin("ranges, nothing told");
        x.keep(1, 1, 0, 0);
        noneSuch("law", law -> x.law(law, 0));
        noneSuch("said", s -> x.said(s, 0));
        noneSuch("alone", s -> x.alone(s));
        noneSuch("knows", w -> x.knows(w));
        noneSuch("says", w -> x.says(w, 1, 0, 0));
        noneSuch("without", w -> x.without(w));
        noneSuch("lie", w -> x.lie(w, 0));
        noneSuch("certain", w -> x.certain(w));
        noneSuch("knowsOf, one", w -> x.knowsOf(w, 0));
        noneSuch("knowsOf, the other", w -> x.knowsOf(0, w));
        noneSuch("twoLies, one", w -> x.twoLies(w, 1));
        noneSuch("twoLies, the other", w -> x.twoLies(0, w));
    }

    private void facts() {
        begin("ranges, facts");
        x.keep(1, 1, 0, 0);
        x.witness(0);
        ranged("isTrue, a", 0, 5, NO_SUCH, a -> x.isTrue(1, a, 0, 0));
        ranged("isTrue, b", 0, 5, NO_SUCH, b -> x.isTrue(1, 0, b, 0));
        ranged("rules, a", 0, 5, NO_SUCH, a -> x.rules(1, a, 0));
        ranged("rules, b", 0, 5, NO_SUCH, b -> x.rules(1, 0, b));
        ranged("says, a", 0, 5, NO_SUCH, a -> x.says(0, 1, a, 0));
        ranged("says, b", 0, 5, NO_SUCH, b -> x.says(0, 1, 0, b));
        ranged("tells, a", 0, 5, NO_SUCH, a -> x.tells(1, a, 0));
        ranged("tells, b", 0, 5, NO_SUCH, b -> x.tells(1, 0, b));
        ranged("proof", 0, 5, NO_SUCH, fact -> x.proof(fact));
        due("laws that came", x.count(0), 4);
        due("sayings that came", x.count(2), 4);
    }

    private void worldsAndTruths() {
        begin("ranges, worlds");
        x.keep(1, 1, 0, 0);
        ranged("isTrue, world", 0, 63, NO_SUCH, world -> x.isTrue(1, 0, 0, world));
        ranged("truth", 0, 63, NO_SUCH, world -> x.truth(world));
        ranged("witness", 0, 63, NO_SUCH, known -> x.witness(known));
        due("witnesses that came", x.count(1), 2);
    }

    private void whats() {
        begin("ranges, whats");
        tell("l3001;w07;w00;s00101;");
        ranged("law, what", 0, 5, NO_SUCH, what -> x.law(0, what));
        ranged("said, what", 0, 7, NO_SUCH, what -> x.said(0, what));
        ranged("worlds", 0, 1, NO_SUCH_LONG, what -> x.worlds(what));
        ranged("many", 0, 1, NO_SUCH, what -> x.many(what));
        ranged("proved", 0, 1, NO_SUCH, what -> x.proved(what));
        ranged("slips", 0, 1, NO_SUCH, what -> x.slips(what));
        ranged("order", 0, 1, NO_SUCH, what -> x.order(what));
        ranged("lie, what", 0, 2, NO_SUCH, what -> x.lie(0, what));
        ranged("lie of nobody's, what", 0, 2, NO_SUCH, what -> x.lie(1, what));
        ranged("pencils, part", 0, 1, NO_SUCH_LONG, part -> x.pencils(5, 6, part));
        ranged("seeds, what", 0, 1, NO_SUCH, what -> x.seeds(1, 0, what));
        ranged("count", 0, 6, NO_SUCH, what -> x.count(what));
    }

    private void depthsAndTrials() {
        begin("ranges, depths, tenths, men, trials");
        x.witness(7);
        ranged("allKnow", 0, 5, NO_SUCH, n -> x.allKnow(n));
        ranged("pencils, t", 1, 9, NO_SUCH_LONG, t -> x.pencils(t, 6, 0));
        ranged("pencils, n", 0, 12, NO_SUCH_LONG, n -> x.pencils(5, n, 1));
        ranged("seeds, n", 1, 20, NO_SUCH, n -> x.seeds(n, 0, 0));
        ranged("seeds, n", 1, 20, NO_SUCH, n -> x.seeds(n, 0, 1));
    }

    private void shelves() {
        begin("ranges, shelves");
        x.witness(7);
        ranged("keep nothing, d", 0, 7, NO_SUCH, d -> x.keep(d, 0, 0, 0));
        ranged("trial", 0, 7, NO_SUCH, d -> x.trial(d));
        ranged("isTrue, d", 0, 7, NO_SUCH, d -> x.isTrue(d, 0, 0, 0));
        ranged("rules, d", 0, 7, NO_SUCH, d -> x.rules(d, 0, 0));
        ranged("says, d", 0, 7, NO_SUCH, d -> x.says(0, d, 0, 0));
        ranged("tells, d", 0, 7, NO_SUCH, d -> x.tells(d, 0, 0));
        ranged("fits", 0, 7, NO_SUCH_LONG, d -> x.fits(d));
        ranged("judge", 0, 7, NO_SUCH, d -> x.judge(d));
        ranged("cost", 0, 7, NO_SUCH, d -> x.cost(d));
        ranged("toss", 0, 7, NO_SUCH, d -> x.toss(d));
        ranged("put, d", 0, 7, NO_SUCH, d -> x.put(d, 0, 0));
        ranged("copy, d", 0, 7, NO_SUCH, d -> x.copy(d, 0, 0, 0, 0));
        ranged("copy, e", 0, 7, NO_SUCH, e -> x.copy(0, 0, e, 0, 0));
        ranged("element, d", 0, 7, 1, d -> thrownBy(x, d, 0));
        ranged("keep a saying, d", 0, 7, NO_SUCH, d -> x.keep(d, 1, 0, 0));
        ranged("row, d", 0, 7, NO_SUCH, d -> x.row(d, 0, 0));
    }

    private void growing() {
        begin("ranges, what shelves get");
        ranged("keep, what", 0, 1, NO_SUCH, what -> x.keep(1, what, 0, 0));
        ranged("keep, kind", 0, 7, NO_SUCH, kind -> x.keep(1, 1, kind, 0));
        ranged("keep, figure", 0, 9, NO_SUCH, figure -> x.keep(1, 1, 0, figure));
        ranged("row, sort", 0, 2, NO_SUCH, sort -> x.row(1, sort, 0));
        ranged("row, n, above", -1, 100, NO_SUCH, n -> n < -1 ? NO_SUCH : x.row(1, 0, n));
        ranged("row, n, below", 0, 101, -14, n -> n > 101 ? -14 : x.row(1, 0, n));
        fill(1, 1, 5, 6, 7);
        ranged("put, i", 0, 2, -13, i -> x.put(1, i, 8));
        ranged("element, i", 0, 2, 2, i -> thrownBy(x, 1, i));
        x.row(2, 1, 4);
        ranged("copy, i", 0, 2, -13, i -> x.copy(1, i, 2, 0, 1));
        ranged("copy, j", 0, 3, -13, j -> x.copy(1, 0, 2, j, 1));
        ranged("copy, n", 0, 3, -13, n -> x.copy(1, 0, 2, 0, n));
        ranged("copy, n from place 1", 0, 2, -13, n -> x.copy(1, 1, 2, 0, n));
        ranged("copy, n to place 3", 0, 1, -13, n -> x.copy(1, 0, 2, 3, n));
    }
}
