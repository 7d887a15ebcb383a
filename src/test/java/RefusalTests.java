/** What is refused changes nothing, and of several refusals the first told is answered. Twins tell: one is asked, one is not. */
final class RefusalTests extends CourtTests {
    private static final String SOME = "l3001;l4023;w07;w00;w56;t05;s00101;s11011;s27834;";

    private interface Call {
        long of(WitnessesMustLie court);
    }

    private boolean isFull;

    RefusalTests(Checks checks) {
        super(checks);
    }

    void runAll() {
        isFull = false;
        begin("REFUSALS (answers; nothing changes)");
        refusedTrials();
        refusedChanges();
        refusedOfRows();
        refusedShelves();
        refusedQuestions();
        begin("what only answers changes nothing");
        questions();
        questionsOfShelves();
        isFull = true;
        begin("REFUSALS where there is no room");
        noRoom();
        begin("several REFUSALS, the first as told");
        severalOfTrials();
        severalOfShelves();
        severalOfQuestions();
        begin("REFUSALS of longs");
        refusedLongs();
    }

    /** Laws, witnesses, sayings, an image that is otherwise, and on the shelves something of each kind. */
    private WitnessesMustLie prepared() {
        WitnessesMustLie made = new WitnessesMustLie();
        x = made;
        tell(SOME);
        x.image();
        if (isFull) {
            tell("l0000;l0000;l0000;l0000;w03;w63;s00000;s00000;s00000;s00000;s00000;");
            tell("s00000;s47955;");
        }
        tell("t09;");
        x.keep(1, 1, EITHER, 3);
        write(3, "w64;");
        write(4, "w0");
        fill(5, 1, 5, -6, 7);
        fill(6, 2, 1, LEAST);
        x.keep(7, 1, EXPERT, 4);
        return made;
    }

    private void unchangedBy(String call, long want, Call asked) {
        WitnessesMustLie one = prepared();
        WitnessesMustLie other = prepared();
        due(call, asked.of(one), want);
        alike(call, one, other);
    }

    private void answered(String call, Call asked) {
        WitnessesMustLie one = prepared();
        WitnessesMustLie other = prepared();
        long first = asked.of(one);
        due(call + ", once more", asked.of(one), first);
        alike(call, one, other);
    }

    private void alike(String call, WitnessesMustLie one, WitnessesMustLie other) {
        long[] seen = new long[400];
        long[] seenOfOther = new long[400];
        int n = look(one, seen);
        due(call + ", how much is seen", n, look(other, seenOfOther));
        for (int i = 0; i < n; i++) {
            due(call + ", what is seen as number " + i, seen[i], seenOfOther[i]);
        }
    }

    /** Writes down all that can be told of a court, and of its image: how much. */
    private static int look(WitnessesMustLie court, long[] seen) {
        int n = lookAtTrial(court, seen, 0);
        for (int d = 0; d < 8; d++) {
            seen[n++] = court.cost(d);
            seen[n++] = court.toss(d);
            for (int i = 0; i < 5; i++) {
                int thrown = thrownBy(court, d, i);
                seen[n++] = thrown == 0 ? court.element(d, i) : 1000000 + thrown;
            }
        }
        seen[n++] = court.restore();
        return lookAtTrial(court, seen, n);
    }

    private static int lookAtTrial(WitnessesMustLie court, long[] seen, int from) {
        int n = from;
        for (int what = 0; what <= 6; what++) {
            seen[n++] = court.count(what);
        }
        for (int i = 0; i < 6; i++) {
            for (int what = 0; what <= 3; what++) {
                seen[n++] = court.law(i, what);
            }
        }
        for (int s = 0; s < 10; s++) {
            for (int what = 0; what <= 6; what += what == 3 ? 3 : 1) {
                seen[n++] = court.said(s, what);
            }
        }
        for (int w = 0; w < 5; w++) {
            seen[n++] = court.knows(w);
        }
        return n;
    }

    private void refusedTrials() {
        unchangedBy("trial(8)", -1, c -> c.trial(8));
        unchangedBy("trial(1)", -12, c -> c.trial(1));
        unchangedBy("trial(2)", -11, c -> c.trial(2));
        unchangedBy("trial(3)", -2000, c -> c.trial(3));
        unchangedBy("trial(4)", -1002, c -> c.trial(4));
        unchangedBy("trial(5)", -12, c -> c.trial(5));
        unchangedBy("trial(6)", -12, c -> c.trial(6));
    }

    private void refusedChanges() {
        unchangedBy("rules(8, 0, 0)", -1, c -> c.rules(8, 0, 0));
        unchangedBy("rules(1, 6, 0)", -1, c -> c.rules(1, 6, 0));
        unchangedBy("rules(1, 0, 6)", -1, c -> c.rules(1, 0, 6));
        unchangedBy("rules(2, 0, 0)", -11, c -> c.rules(2, 0, 0));
        unchangedBy("rules(5, 0, 0)", -12, c -> c.rules(5, 0, 0));
        unchangedBy("says(3, 1, 0, 0)", -1, c -> c.says(3, 1, 0, 0));
        unchangedBy("says(0, 8, 0, 0)", -1, c -> c.says(0, 8, 0, 0));
        unchangedBy("says(0, 1, 6, 0)", -1, c -> c.says(0, 1, 6, 0));
        unchangedBy("says(0, 1, 0, 6)", -1, c -> c.says(0, 1, 0, 6));
        unchangedBy("says(0, 2, 0, 0)", -11, c -> c.says(0, 2, 0, 0));
        unchangedBy("says(0, 5, 0, 0)", -12, c -> c.says(0, 5, 0, 0));
        unchangedBy("witness(64)", -1, c -> c.witness(64));
        unchangedBy("truth(64)", -1, c -> c.truth(64));
        unchangedBy("truth(-1)", -1, c -> c.truth(-1));
    }

    private void refusedOfRows() {
        unchangedBy("put(8, 0, 9)", -1, c -> c.put(8, 0, 9));
        unchangedBy("put(2, 0, 9)", -11, c -> c.put(2, 0, 9));
        unchangedBy("put(1, 0, 9)", -12, c -> c.put(1, 0, 9));
        unchangedBy("put(5, 3, 9)", -13, c -> c.put(5, 3, 9));
        unchangedBy("put(5, -1, 9)", -13, c -> c.put(5, -1, 9));
        unchangedBy("copy(8, 0, 5, 0, 1)", -1, c -> c.copy(8, 0, 5, 0, 1));
        unchangedBy("copy(5, 0, 8, 0, 1)", -1, c -> c.copy(5, 0, 8, 0, 1));
        unchangedBy("copy(2, 0, 5, 0, 1)", -11, c -> c.copy(2, 0, 5, 0, 1));
        unchangedBy("copy(5, 0, 2, 0, 1)", -11, c -> c.copy(5, 0, 2, 0, 1));
        unchangedBy("copy(5, 0, 1, 0, 1)", -12, c -> c.copy(5, 0, 1, 0, 1));
        unchangedBy("copy(5, 0, 6, 0, 1)", -12, c -> c.copy(5, 0, 6, 0, 1));
        unchangedBy("copy(3, 0, 4, 0, 3)", -13, c -> c.copy(3, 0, 4, 0, 3));
        unchangedBy("copy(5, 0, 5, 1, 3)", -13, c -> c.copy(5, 0, 5, 1, 3));
        unchangedBy("element(8, 0) throws", 1, c -> thrownBy(c, 8, 0));
        unchangedBy("element(1, 0) throws", 2, c -> thrownBy(c, 1, 0));
        unchangedBy("element(5, 3) throws", 2, c -> thrownBy(c, 5, 3));
        unchangedBy("fits(1)", OF_LONGS + 12, c -> c.fits(1));
        unchangedBy("fits(5)", OF_LONGS + 13, c -> c.fits(5));
        unchangedBy("judge(1)", -12, c -> c.judge(1));
    }

    private void refusedShelves() {
        unchangedBy("keep(8, 1, 0, 0)", -1, c -> c.keep(8, 1, 0, 0));
        unchangedBy("keep(1, 2, 0, 0)", -1, c -> c.keep(1, 2, 0, 0));
        unchangedBy("keep(1, 1, 8, 0)", -1, c -> c.keep(1, 1, 8, 0));
        unchangedBy("keep(5, 1, 0, 10)", -1, c -> c.keep(5, 1, 0, 10));
        unchangedBy("row(8, 0, 1)", -1, c -> c.row(8, 0, 1));
        unchangedBy("row(5, 3, 1)", -1, c -> c.row(5, 3, 1));
        unchangedBy("row(5, 0, 101)", -1, c -> c.row(5, 0, 101));
        unchangedBy("row(5, 0, -1)", -14, c -> c.row(5, 0, -1));
        unchangedBy("cost(5)", -12, c -> c.cost(5));
        unchangedBy("toss(7)", -15, c -> c.toss(7));
        unchangedBy("toss(2)", -11, c -> c.toss(2));
    }

    private void refusedQuestions() {
        unchangedBy("law(2, 0)", -1, c -> c.law(2, 0));
        unchangedBy("said(0, 8)", -1, c -> c.said(0, 8));
        unchangedBy("slips(2)", -1, c -> c.slips(2));
        unchangedBy("plain()", -4, c -> c.plain());
        unchangedBy("order(1)", -4, c -> c.order(1));
        unchangedBy("order(2)", -1, c -> c.order(2));
        unchangedBy("lie(1, 1)", -4, c -> c.lie(1, 1));
        unchangedBy("twoLies(0, 1)", -4, c -> c.twoLies(0, 1));
        unchangedBy("twoLies(0, 0)", -1, c -> c.twoLies(0, 0));
        unchangedBy("seeds(21, 0, 0)", -1, c -> c.seeds(21, 0, 0));
        unchangedBy("count(7)", -1, c -> c.count(7));
    }

    private void questions() {
        answered("isTrue(1, 0, 1, 9)", c -> c.isTrue(1, 0, 1, 9));
        answered("worlds(1)", c -> c.worlds(1));
        answered("many(1)", c -> c.many(1));
        answered("proved(0)", c -> c.proved(0));
        answered("slips(1)", c -> c.slips(1));
        answered("alone(2)", c -> c.alone(2));
        answered("clash()", c -> c.clash());
        answered("proof(1)", c -> c.proof(1));
        answered("slipped()", c -> c.slipped());
        answered("ask()", c -> c.ask());
        answered("plain()", c -> c.plain());
        answered("order(0)", c -> c.order(0));
        answered("without(2)", c -> c.without(2));
        answered("lie(0, 2)", c -> c.lie(0, 2));
        answered("twoLies(0, 2)", c -> c.twoLies(0, 2));
        answered("tells(1, 0, 1)", c -> c.tells(1, 0, 1));
        answered("verdict()", c -> c.verdict());
        answered("certain(2)", c -> c.certain(2));
        answered("knowsOf(0, 2)", c -> c.knowsOf(0, 2));
        answered("allKnow(5)", c -> c.allKnow(5));
        answered("seeds(20, 5, 0)", c -> c.seeds(20, 5, 0));
        answered("pencils(5, 6, 0)", c -> c.pencils(5, 6, 0));
    }

    private void questionsOfShelves() {
        answered("fits(6)", c -> c.fits(6));
        answered("judge(6)", c -> c.judge(6));
        answered("element(6, 1)", c -> c.element(6, 1));
        answered("cost(1)", c -> c.cost(1));
        answered("toss(1)", c -> c.toss(1));
    }

    private void noRoom() {
        unchangedBy("rules(1, 0, 0)", -2, c -> c.rules(1, 0, 0));
        unchangedBy("says(0, 1, 0, 0)", -2, c -> c.says(0, 1, 0, 0));
        unchangedBy("witness(0)", -2, c -> c.witness(0));
        unchangedBy("rules(5, 0, 0)", -12, c -> c.rules(5, 0, 0));
        unchangedBy("rules(2, 0, 0)", -11, c -> c.rules(2, 0, 0));
        unchangedBy("rules(1, 6, 0)", -1, c -> c.rules(1, 6, 0));
        unchangedBy("says(0, 5, 0, 0)", -12, c -> c.says(0, 5, 0, 0));
        unchangedBy("says(0, 2, 0, 0)", -11, c -> c.says(0, 2, 0, 0));
        unchangedBy("says(5, 1, 0, 0)", -1, c -> c.says(5, 1, 0, 0));
        unchangedBy("witness(64)", -1, c -> c.witness(64));
    }

    private void severalOfTrials() {
        x = new WitnessesMustLie();
        x.row(3, 0, 1);
        due("isTrue: no such fact, nothing held", x.isTrue(2, 6, 0, 0), -1);
        due("isTrue: no such world, a row", x.isTrue(3, 0, 0, 64), -1);
        due("rules: no such fact, nothing held", x.rules(2, 0, 6), -1);
        due("rules: no such fact, a row", x.rules(3, -1, 0), -1);
        due("says: nobody, nothing held", x.says(0, 2, 0, 0), -1);
        x.witness(0);
        due("says: no such fact, a row", x.says(0, 3, 0, 6), -1);
        due("tells: no such fact, nothing held", x.tells(2, 0, 6), -1);
        due("tells: no such fact, a row", x.tells(3, 6, 0), -1);
    }

    private void severalOfShelves() {
        x = new WitnessesMustLie();
        x.keep(1, 1, 0, 0);
        x.row(3, 0, 1);
        x.row(4, 1, 1);
        due("keep: no such shelf, what, kind, figure", x.keep(8, 2, 8, 10), -1);
        due("row: no such shelf, below 0", x.row(8, 0, -1), -1);
        due("row: no such sort, below 0", x.row(3, 3, -1), -1);
        due("put: nothing held, no such place", x.put(2, -1, 0), -11);
        due("put: a saying, no such place", x.put(1, -1, 0), -12);
        due("put: no such shelf, no such place", x.put(-1, -1, 0), -1);
        due("element: no such shelf, no such place", thrownBy(x, -1, -1), 1);
        due("copy: no such shelf, nothing held", x.copy(2, 0, 8, 0, 1), -1);
        due("copy: nothing held, a saying", x.copy(1, 0, 2, 0, 1), -11);
        due("copy: nothing held, no such place", x.copy(3, 5, 2, 0, 1), -11);
        due("copy: a saying, no such place", x.copy(1, 5, 3, 0, 1), -12);
        due("copy: other sorts, no such place", x.copy(3, 0, 4, 0, 2), -12);
        due("fits: a saying", x.fits(1), OF_LONGS + 12);
    }

    private void severalOfQuestions() {
        x = new WitnessesMustLie();
        due("order: what 2, no witnesses", x.order(2), -1);
        due("order: what -1, no witnesses", x.order(-1), -1);
        due("order: no witnesses, not plain", x.order(1), -3);
        due("allKnow: depth 6, no witnesses", x.allKnow(6), -1);
        due("allKnow: depth -1, no witnesses", x.allKnow(-1), -1);
        due("allKnow: no witnesses", x.allKnow(0), -3);
        x.witness(0);
        due("order: what 2, not plain", x.order(2), -1);
        due("lie: what 3, none", x.lie(0, 3), -1);
        due("twoLies: one twice, none", x.twoLies(0, 0), -1);
        due("proof: no such fact, none", x.proof(6), -1);
        due("slips: what 2, none", x.slips(2), -1);
    }

    private void refusedLongs() {
        x = new WitnessesMustLie();
        x.keep(1, 1, 0, 0);
        fill(3, 0, 5);
        due("worlds: -1", x.worlds(2), 4000000000000000001L);
        due("pencils: -1", x.pencils(0, 0, 0), 4000000000000000001L);
        due("fits: -1", x.fits(8), 4000000000000000001L);
        due("fits: -11", x.fits(2), 4000000000000000011L);
        due("fits: -12", x.fits(1), 4000000000000000012L);
        due("fits: -13", x.fits(3), 4000000000000000013L);
    }
}
