import java.util.Random;

/** Runs of calls drawn by fixed seeds, each answer compared with that of NaiveCourt; strange arguments among them. */
final class RandomRuns {
    private static final int RUNS = 300;
    private static final int CALLS = 512;
    private static final int[] STRANGE = {
        -1, 6, 8, 10, 64, 100, 101, -2, 1 << 30, Integer.MIN_VALUE, Integer.MAX_VALUE, Integer.MIN_VALUE + 1, -128, -32768
    };

    private final Checks checks;
    private Random random;
    private WitnessesMustLie x;
    private NaiveCourt y;
    private int calls;
    private int strangeness;

    RandomRuns(Checks checks) {
        this.checks = checks;
    }

    void runAll() {
        for (int run = 0; run < RUNS; run++) {
            checks.begin("random run " + run);
            random = new Random(run);
            x = new WitnessesMustLie();
            y = new NaiveCourt();
            strangeness = run % 3 == 0 ? 12 : run % 3 == 1 ? 40 : 4;
            calls = 0;
            begin(run);
            while (calls < CALLS - 120) {
                step();
            }
        }
    }

    private void due(String call, long got, long want) {
        calls++;
        checks.due(call, got, want);
    }

    private int below(int n) {
        if (random.nextInt(strangeness) == 0 && random.nextInt(strangeness) < 4) {
            return STRANGE[random.nextInt(STRANGE.length)];
        }
        return random.nextInt(n);
    }

    /** Most runs begin with some witnesses, laws, sayings, so that there is something to ask about. */
    private void begin(int run) {
        if (run % 7 == 0) {
            return;
        }
        StringBuilder text = new StringBuilder();
        for (int k = random.nextInt(4); k >= 0; k--) {
            text.append('w').append(twoDigits(random.nextInt(64))).append(';');
        }
        for (int k = random.nextInt(3); k > 0; k--) {
            text.append('l').append(saying()).append(';');
        }
        for (int k = random.nextInt(6); k > 0; k--) {
            text.append("s0").append(saying()).append(';');
        }
        text.append('t').append(twoDigits(random.nextInt(64))).append(';');
        tell(0, text.toString());
    }

    private static String twoDigits(int n) {
        return "" + n / 10 + n % 10;
    }

    private String saying() {
        return "" + random.nextInt(8) + random.nextInt(10) + random.nextInt(6) + random.nextInt(6);
    }

    private void tell(int d, String text) {
        row(d, 0, text.length());
        for (int i = 0; i < text.length(); i++) {
            put(d, i, text.charAt(i));
        }
        due("trial(" + d + ") of " + text, x.trial(d), y.trial(d));
    }

    private void row(int d, int sort, int n) {
        due("row(" + d + ", " + sort + ", " + n + ")", x.row(d, sort, n), y.row(d, sort, n));
    }

    private void put(int d, int i, int v) {
        due("put(" + d + ", " + i + ", " + v + ")", x.put(d, i, v), y.put(d, i, v));
    }

    private void step() {
        int kind = random.nextInt(20);
        if (kind < 6) {
            change();
        } else if (kind < 9) {
            shelves();
        } else if (kind == 9 && random.nextInt(3) == 0) {
            oddText();
        } else if (kind == 10) {
            toldTrial();
        } else if (kind < 15) {
            askOfWorlds();
        } else {
            askOfWitnesses();
        }
    }

    private void change() {
        int a = below(6);
        int b = below(6);
        int d = random.nextInt(3) == 0 ? below(8) : 7;
        if (random.nextInt(2) == 0) {
            int kind = below(8);
            int figure = below(10);
            due("keep(" + d + ", 1, " + kind + ", " + figure + ")", x.keep(d, 1, kind, figure), y.keep(d, 1, kind, figure));
        }
        switch (random.nextInt(9)) {
            case 0:
                if (random.nextInt(3) == 0) {
                    due("rules(" + d + ", " + a + ", " + b + ")", x.rules(d, a, b), y.rules(d, a, b));
                }
                break;
            case 1:
            case 2:
            case 3:
                int teller = below(5);
                due("says(" + teller + ", " + d + ", " + a + ", " + b + ")", x.says(teller, d, a, b), y.says(teller, d, a, b));
                break;
            case 4:
                due("unsays()", x.unsays(), y.unsays());
                break;
            case 5:
                int known = below(64);
                due("witness(" + known + ")", x.witness(known), y.witness(known));
                break;
            case 6:
                int world = below(64);
                due("truth(" + world + ")", x.truth(world), y.truth(world));
                break;
            case 7:
                due("image()", x.image(), y.image());
                break;
            default:
                due("restore()", x.restore(), y.restore());
                break;
        }
    }

    private void shelves() {
        int d = below(8);
        int e = below(8);
        int i = below(12);
        int j = below(12);
        int n = below(8);
        switch (random.nextInt(8)) {
            case 0:
                due("keep(" + d + ", 0, ..)", x.keep(d, 0, i, j), y.keep(d, 0, i, j));
                break;
            case 1:
                row(d, below(3), below(20));
                break;
            case 2:
                row(d, 1, 12);
                row(e, 1, 11);
                put(d, i, random.nextInt());
                break;
            case 3:
                put(d, i, random.nextInt());
                break;
            case 4:
                due("copy(" + d + ", " + i + ", " + e + ", " + j + ", " + n + ")", x.copy(d, i, e, j, n), y.copy(d, i, e, j, n));
                break;
            case 5:
                due("cost(" + d + ")", x.cost(d), y.cost(d));
                break;
            case 6:
                due("toss(" + d + ")", x.toss(d), y.toss(d));
                break;
            default:
                element(d, i);
                break;
        }
    }

    private void element(int d, int i) {
        long want = 0;
        int wantThrown = 0;
        try {
            want = y.element(d, i);
        } catch (IllegalArgumentException refused) {
            wantThrown = 1;
        } catch (IllegalStateException refused) {
            wantThrown = 2;
        }
        long got = 0;
        int thrown = 0;
        try {
            got = x.element(d, i);
        } catch (IllegalArgumentException refused) {
            thrown = 1;
        } catch (IllegalStateException refused) {
            thrown = 2;
        }
        due("element(" + d + ", " + i + ") throws", thrown, wantThrown);
        checks.due("element(" + d + ", " + i + ")", got, want);
    }

    private void oddText() {
        StringBuilder text = new StringBuilder();
        for (int k = random.nextInt(12); k >= 0 && text.length() < 80; k--) {
            switch (random.nextInt(4)) {
                case 0:
                    text.append('l').append(saying());
                    break;
                case 1:
                    text.append('w').append(twoDigits(random.nextInt(66)));
                    break;
                case 2:
                    text.append('t').append(twoDigits(random.nextInt(66)));
                    break;
                default:
                    text.append('s').append(random.nextInt(4)).append(saying());
                    break;
            }
            text.append(';');
        }
        int fault = random.nextInt(6);
        int at = random.nextInt(text.length());
        if (fault == 0) {
            text.setCharAt(at, "lwts;0129 x:/".charAt(random.nextInt(13)));
        } else if (fault == 1) {
            text.setLength(at);
        } else if (fault == 2) {
            text.setCharAt(at, (char) random.nextInt(256));
        }
        tell(below(8), text.toString());
    }

    /** A row of what is so, more or less. */
    private void toldTrial() {
        int d = below(8);
        int sort = random.nextInt(3);
        int n = random.nextInt(random.nextInt(4) == 0 ? 14 : y.count(2) + 1);
        boolean isJudged = random.nextBoolean();
        row(d, sort, n);
        for (int i = 0; i < n; i++) {
            int v = isJudged ? i <= y.count(2) ? y.leftBehind(i) : 0 : random.nextInt(2);
            int odd = random.nextInt(16);
            put(d, i, odd == 0 ? random.nextInt(4) : odd <= 3 ? new int[] {-128, -32768, Integer.MIN_VALUE}[sort] : v);
        }
        due("fits(" + d + ")", x.fits(d), y.fits(d));
        due("judge(" + d + ")", x.judge(d), y.judge(d));
    }

    private void askOfWorlds() {
        int what = below(2);
        int fact = below(6);
        int a = below(6);
        int d = random.nextInt(3) == 0 ? below(8) : 7;
        switch (random.nextInt(16)) {
            case 0:
                due("worlds(" + what + ")", x.worlds(what), y.worlds(what));
                break;
            case 1:
                due("many(" + what + ")", x.many(what), y.many(what));
                break;
            case 2:
                due("proved(" + what + ")", x.proved(what), y.proved(what));
                break;
            case 3:
                due("slips(" + what + ")", x.slips(what), y.slips(what));
                break;
            case 4:
                int s = below(10);
                due("alone(" + s + ")", x.alone(s), y.alone(s));
                break;
            case 5:
                due("clash()", x.clash(), y.clash());
                break;
            case 6:
                due("proof(" + fact + ")", x.proof(fact), y.proof(fact));
                break;
            case 7:
                due("slipped()", x.slipped(), y.slipped());
                break;
            case 8:
                due("ask()", x.ask(), y.ask());
                break;
            case 9:
                int counted = below(7);
                due("count(" + counted + ")", x.count(counted), y.count(counted));
                break;
            case 10:
                int law = below(6);
                int ofLaw = below(6);
                due("law(" + law + ", " + ofLaw + ")", x.law(law, ofLaw), y.law(law, ofLaw));
                break;
            case 11:
                int said = below(10);
                int ofSaid = below(8);
                due("said(" + said + ", " + ofSaid + ")", x.said(said, ofSaid), y.said(said, ofSaid));
                break;
            case 12:
                int world = below(64);
                String call = "isTrue(" + d + ", " + a + ", " + fact + ", " + world + ")";
                due(call, x.isTrue(d, a, fact, world), y.isTrue(d, a, fact, world));
                break;
            case 13:
                due("tells(" + d + ", " + a + ", " + fact + ")", x.tells(d, a, fact), y.tells(d, a, fact));
                break;
            case 14:
                due("verdict()", x.verdict(), y.verdict());
                break;
            default:
                int t = below(10);
                int n = below(13);
                due("pencils(" + t + ", " + n + ", " + what + ")", x.pencils(t, n, what), y.pencils(t, n, what));
                break;
        }
    }

    private void askOfWitnesses() {
        int what = below(2);
        int one = below(5);
        int other = below(5);
        switch (random.nextInt(10)) {
            case 0:
                due("plain()", x.plain(), y.plain());
                break;
            case 1:
                due("order(" + what + ")", x.order(what), y.order(what));
                break;
            case 2:
                due("without(" + one + ")", x.without(one), y.without(one));
                break;
            case 3:
                int ofLie = below(3);
                due("lie(" + one + ", " + ofLie + ")", x.lie(one, ofLie), y.lie(one, ofLie));
                break;
            case 4:
                if (random.nextInt(8) == 0) {
                    due("twoLies(" + one + ", " + other + ")", x.twoLies(one, other), y.twoLies(one, other));
                }
                break;
            case 5:
                due("certain(" + one + ")", x.certain(one), y.certain(one));
                break;
            case 6:
                due("knowsOf(" + one + ", " + other + ")", x.knowsOf(one, other), y.knowsOf(one, other));
                break;
            case 7:
                int depth = below(6);
                due("allKnow(" + depth + ")", x.allKnow(depth), y.allKnow(depth));
                break;
            case 8:
                int n = 1 + below(20);
                int z = random.nextInt();
                due("seeds(" + n + ", " + z + ", " + what + ")", x.seeds(n, z, what), y.seeds(n, z, what));
                break;
            default:
                due("knows(" + one + ")", x.knows(one), y.knows(one));
                break;
        }
    }
}
