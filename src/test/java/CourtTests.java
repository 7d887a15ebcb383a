/** What the hand-worked tests have in common: an object of the class, and short ways to tell it things. */
abstract class CourtTests {
    static final long OF_LONGS = 4000000000000000000L;
    static final int LEAST = Integer.MIN_VALUE;
    static final int GREATEST = Integer.MAX_VALUE;

    static final int SAYS = 0;
    static final int DENIES = 1;
    static final int BOTH = 2;
    static final int EITHER = 3;
    static final int IF = 4;
    static final int ALIKE = 5;
    static final int EXPERT = 6;
    static final int POET = 7;

    /** Numbers that are no fact, world, witness, place or what of any call. */
    static final int[] OUTSIDE = {-1, 64, 101, LEAST, GREATEST};

    WitnessesMustLie x;
    private final Checks checks;

    CourtTests(Checks checks) {
        this.checks = checks;
    }

    abstract void runAll();

    void begin(String group) {
        checks.begin(group);
        x = new WitnessesMustLie();
    }

    void due(String call, long got, long want) {
        checks.due(call, got, want);
    }

    /** Puts a text on shelf 0 and has it told. */
    int tell(String text) {
        write(0, text);
        return x.trial(0);
    }

    void write(int d, String text) {
        x.row(d, 0, text.length());
        for (int i = 0; i < text.length(); i++) {
            x.put(d, i, text.charAt(i));
        }
    }

    void told(String text, int want) {
        due("trial of " + text, tell(text), want);
    }

    int rules(int kind, int a, int b) {
        x.keep(7, 1, kind, 0);
        return x.rules(7, a, b);
    }

    int says(int witness, int kind, int a, int b) {
        x.keep(7, 1, kind, 0);
        return x.says(witness, 7, a, b);
    }

    void fill(int d, int sort, int... numbers) {
        x.row(d, sort, numbers.length);
        for (int i = 0; i < numbers.length; i++) {
            x.put(d, i, numbers[i]);
        }
    }

    /** What element throws: 1 an IllegalArgumentException, 2 an IllegalStateException, 0 nothing. */
    static int thrownBy(WitnessesMustLie court, int d, int i) {
        try {
            court.element(d, i);
        } catch (IllegalArgumentException refused) {
            return 1;
        } catch (IllegalStateException refused) {
            return 2;
        }
        return 0;
    }
}
