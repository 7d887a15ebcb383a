/** The edges that part II of the terms names: of worlds, whom to ask, lies, what is known, pencils, told trials, seeds. */
final class WorldEdges extends CourtTests {
    private static final int LEAST_BYTE = -128;
    private static final int LEAST_SHORT = -32768;

    /** Laws by which facts 2 to 5 are, so that worlds 60 to 63 may be. */
    private static final String FOUR_FACTS = "l2023;l2045;";

    WorldEdges(Checks checks) {
        super(checks);
    }

    void runAll() {
        worlds();
        whomToAsk();
        lies();
        whatIsKnown();
        toldTrials();
        seeds();
    }

    private void worlds() {
        theBitOfWorld63();
        mayBeWhateverIsSaid();
        provedOfNoneLeft();
        provedOfOneWorld();
        slipsOfNoneAndOfAll();
        aloneLeavesNoneOrAll();
        clashOfTheFirstTwo();
        clashOnlyOfWhatCanBeFalse();
        clashOfOneOrNone();
        proofByNothing();
        proofByTheFewest();
        proofLeavesSomeWorld();
        slippedOfSeveral();
        slippedOfNone();
    }

    private void whomToAsk() {
        askOfNoneLeft();
        askOfSeveral();
        plainByNobody();
        plainByTheFewest();
        plainByAll();
        plainByNone();
        orderOfTheLeastDigits();
        orderOfNone();
        orderWithoutWitnesses();
        withoutOne();
    }

    private void lies() {
        lieOfNone();
        lieOfSeveral();
        lieOfPoets();
        lieWhereNoneIsLeft();
        twoLiesOfNone();
        tellsOfNoneAndOfAll();
        nobodyDeniedOfNoneAndOfAll();
    }

    private void whatIsKnown() {
        certainWhereThereIsNone();
        certainOfNothingAndOfAll();
        knowsOfWhereThereIsNone();
        knowsOfOneself();
        allKnowDepths();
        allKnowByWorld0();
        allKnowOfATruthThatIsNotLeft();
        allKnowWhereThereIsNone();
    }

    private void toldTrials() {
        pencilsAtTheEnds();
        fitsByNothing();
        fitsByAFullRow();
        fitsSkipsTheLeast();
        fitsOtherNumbers();
        judgedByNothing();
        judgedByAFullRow();
        judgedSkipsTheLeast();
        judgedMoreNumbers();
    }

    private void seeds() {
        trialsFrom1To20();
        seedsWithoutWitnesses();
        seedsWrapAround();
        aDrawWithoutItsSign();
        seedsAskNothingSaid();
    }

    private void theBitOfWorld63() {
        begin("II, WORLDS as bits of a long (bit w: WORLD w)");
        tell("l2001;l2023;l2045;");
        due("world 63 is the sign's bit", x.worlds(0), Long.MIN_VALUE);
        begin("II, WORLDS as bits of a long, world 0");
        tell("l1000;l1011;l1022;l1033;l1044;l1055;");
        due("world 0 is bit 0", x.worlds(0), 1);
    }

    private void mayBeWhateverIsSaid() {
        begin("II, MAY BE and LEFT");
        tell("l0055;w00;s00000;");
        due("worlds that may be", x.worlds(0), 0xFFFFFFFF00000000L);
        due("worlds left", x.worlds(1), 0x5555555500000000L);
        due("how many may be", x.many(0), 32);
        due("how many are left", x.many(1), 16);
        x.truth(33);
        due("the truth may be", x.count(5), 1);
        due("but is not left", x.count(6), 0);
        x.truth(32);
        due("another may be", x.count(5), 1);
        due("and is left", x.count(6), 1);
        x.truth(0);
        due("a third may not be", x.count(5), 0);
        due("nor is it left", x.count(6), 0);
    }

    private void provedOfNoneLeft() {
        begin("II, PROVED, REFUTED: of none LEFT all, both");
        tell("w00;s00000;s01000;");
        due("proved", x.proved(0), 63);
        due("refuted", x.proved(1), 63);
        x.unsays();
        due("proved once some are left", x.proved(0), 0);
        due("refuted once some are left", x.proved(1), 1);
    }

    private void provedOfOneWorld() {
        begin("II, PROVED, REFUTED of one WORLD");
        tell("l2001;l2023;w00;s00044;");
        due("two worlds: proved", x.proved(0), 15);
        due("two worlds: refuted", x.proved(1), 16);
        rules(SAYS, 5, 5);
        due("one world: proved", x.proved(0), 47);
        due("one world: refuted", x.proved(1), 16);
    }

    private void slipsOfNoneAndOfAll() {
        begin("II, SLIPS; the first; -4");
        due("nothing said", x.slips(0), 0);
        due("nothing said: the first", x.slips(1), -4);
        tell("w00;s00000;s00000;s00000;s00000;s00000;s00000;s00000;s00000;s00000;");
        due("no slip", x.slips(0), 0);
        due("no slip: the first", x.slips(1), -4);
        says(0, DENIES, 0, 0);
        due("the last of ten", x.slips(0), 512);
        due("the last of ten: the first", x.slips(1), 9);
        x.truth(1);
        due("all but the last", x.slips(0), 511);
        due("all but the last: the first", x.slips(1), 0);
        x.unsays();
        says(0, SAYS, 0, 0);
        due("all ten", x.slips(0), 1023);
    }

    private void aloneLeavesNoneOrAll() {
        begin("II, ALONE");
        tell("l0055;w00;s00055;s06000;s00000;s01000;");
        due("against a law: none", x.alone(0), 0);
        due("an expert: all that may be", x.alone(1), 32);
        due("by itself, whatever else is said", x.alone(2), 16);
        due("its denial", x.alone(3), 16);
        due("behind the last", x.alone(4), -1);
    }

    private void clashOfTheFirstTwo() {
        begin("II, CLASH: the first two SAID");
        tell("w00;w00;s00000;s00011;s11022;s11011;s01000;s00022;");
        // 0 and 4, 1 and 3, 2 and 5 clash.
        due("the least first one", x.clash(), 4);
        begin("II, CLASH: 10 times the lesser and the other");
        tell("w00;s06000;s06000;s06000;s06000;s06000;s06000;s06000;s06000;s00055;");
        due("nine said, none clash", x.clash(), -4);
        says(0, DENIES, 5, 5);
        due("the last two of ten", x.clash(), 89);
        begin("II, CLASH: of one with several");
        tell("w00;s01000;s00011;s00000;s00000;");
        due("the first of those", x.clash(), 2);
    }

    private void clashOnlyOfWhatCanBeFalse() {
        begin("II, CLASH, but each alone can");
        tell("l0000;w00;s00000;s00011;s05222;s00000;");
        due("what can't be false alone clashes with none", x.clash(), -4);
        says(0, DENIES, 1, 1);
        due("1 and the last", x.clash(), 14);
        begin("II, CLASH in WORLDS that MAY BE");
        tell("w00;s00000;s00011;");
        due("both can be false", x.clash(), -4);
        rules(EITHER, 0, 1);
        due("by a law they can't", x.clash(), 1);
    }

    private void clashOfOneOrNone() {
        begin("II, CLASH; -4");
        due("nothing said", x.clash(), -4);
        tell("w00;s00000;");
        due("one said", x.clash(), -4);
        rules(SAYS, 0, 0);
        says(0, DENIES, 0, 0);
        due("one can't be false, the other can", x.clash(), -4);
        rules(DENIES, 0, 0);
        due("no world may be", x.clash(), -4);
    }

    private void proofByNothing() {
        begin("II, PROOF: the fewest (none)");
        tell("l0055;w00;s01055;");
        due("by law", x.proof(5), 0);
        due("never", x.proof(4), -4);
        begin("II, PROOF; -4");
        due("no law, nothing said", x.proof(0), -4);
        due("nor fact 5", x.proof(5), -4);
    }

    private void proofByTheFewest() {
        begin("II, PROOF: the fewest");
        // What must be so, one behind the other: 0; 0 and not 2; 1; 1 and not 2; 2.
        tell("w00;s01000;s04002;s01011;s04112;s01022;");
        due("by the last alone", x.proof(2), 16);
        x.unsays();
        due("never", x.proof(2), -4);
        due("by the first or by the second: the least", x.proof(0), 1);
        due("by the third or by the fourth: the least", x.proof(1), 4);
        begin("II, PROOF: of several the least set");
        // Not 4; not 5; 3 or 5, not both; 3 or 4, not both.
        tell("w00;s00044;s00055;s05035;s05034;");
        due("0 and 3, or 1 and 2, which is less", x.proof(3), 6);
        tell("s06000;s06000;s06000;s06000;s06000;s01033;");
        due("by the last of ten alone", x.proof(3), 512);
    }

    private void proofLeavesSomeWorld() {
        begin("II, PROOF, some WORLD being left");
        tell("w00;s00000;s01000;");
        due("its own denial", x.proof(0), 2);
        due("from nothing left nothing is proved", x.proof(1), -4);
        rules(BOTH, 2, 3);
        rules(DENIES, 2, 2);
        due("no world may be", x.proof(2), -4);
    }

    private void slippedOfSeveral() {
        begin("II, WHO SLIPPED: the fewest, of several the least");
        tell("w00;s00011;s01011;");
        due("the one or the other: the least", x.slipped(), 1);
        says(0, SAYS, 1, 1);
        due("the fewest: the other", x.slipped(), 2);
        begin("II, WHO SLIPPED: none");
        due("nothing said", x.slipped(), 0);
        tell("w00;s00000;s00011;s00022;");
        due("all can be false", x.slipped(), 0);
        x.truth(63);
        due("whatever the truth is", x.slipped(), 0);
        begin("II, WHO SLIPPED: of several sets of two the least");
        // Either 0 or 1 must be: 0 makes 0 and 3 true, 1 makes 1 and 2 true.
        tell("l3001;w00;s00000;s00011;s00011;s00000;");
        due("1 and 2 before 0 and 3", x.slipped(), 6);
        begin("II, WHO SLIPPED: of several sets of two the least, in the first world");
        tell("l3001;w00;s00011;s00000;s00000;s00011;");
        due("1 and 2 before 0 and 3", x.slipped(), 6);
        begin("II, WHO SLIPPED: the fewest, not the least");
        tell("l3001;w00;s00011;s00011;s00000;");
        due("2 alone before 0 and 1", x.slipped(), 4);
        begin("II, WHO SLIPPED: all");
        tell("l2001;w00;s00000;s00011;s03011;s04011;");
        due("all by law", x.slipped(), 15);
        tell("s00000;s00000;s00000;s00000;s00000;s00000;");
        due("all ten by law", x.slipped(), 1023);
        begin("II, WHO SLIPPED in WORLD 0, in WORLD 63");
        tell("l1000;l1011;l1022;l1033;l1044;l1055;w00;s01000;s00000;");
        due("world 0 alone may be", x.slipped(), 1);
        begin("II, WHO SLIPPED in WORLD 63");
        tell("l2001;l2023;l2045;w00;s01000;s00000;");
        due("world 63 alone may be", x.slipped(), 2);
    }

    private void slippedOfNone() {
        begin("II, WHO SLIPPED; -4");
        tell("w00;s00000;l6000;");
        due("no world may be", x.slipped(), -4);
        x.unsays();
        due("nor if nothing is said", x.slipped(), -4);
    }

    private void askOfNoneLeft() {
        begin("II, ASK; -4 none is LEFT");
        tell("w00;s00000;s01000;");
        due("none left", x.ask(), -4);
        x.unsays();
        due("some left", x.ask(), 1);
        begin("II, ASK, no WORLD may be");
        rules(EXPERT, 0, 0);
        due("none left", x.ask(), -4);
    }

    private void askOfSeveral() {
        begin("II, ASK: of several the least");
        due("all part alike", x.ask(), 0);
        tell(FOUR_FACTS);
        due("0 and 1 part alike", x.ask(), 0);
        rules(SAYS, 0, 0);
        due("1 alone parts", x.ask(), 1);
        rules(SAYS, 1, 1);
        due("none parts one world", x.ask(), 0);
        begin("II, ASK: the lesser greatest");
        tell("l3001;l3002;");
        // 0 or both of 1 and 2: 0 in four of five, 1 and 2 in three of five.
        due("1 parts three to two", x.ask(), 3);
        tell("l2034;l0055;");
        due("1 parts three to two, 0 four to one", x.ask(), 1);
    }

    private void plainByNobody() {
        begin("II, PLAIN: nobody");
        tell("l2001;l2023;l2045;w00;s00000;");
        due("one world may be", x.plain(), 0);
        begin("II, PLAIN: nobody, or none");
        tell("l6000;w00;");
        due("no world may be", x.plain(), 0);
        begin("II, PLAIN, two worlds may be");
        tell("l2001;l2023;l0044;w00;w00;s10055;");
        due("one must speak", x.plain(), 2);
    }

    private void plainByTheFewest() {
        begin("II, PLAIN: the fewest, of several the least");
        tell(FOUR_FACTS + "w00;w00;w00;w00;w00;s00000;s10000;s20011;s30011;");
        due("0 and 2 before 1 and 2, 0 and 3", x.plain(), 5);
        tell("s41000;s41011;");
        due("the last alone", x.plain(), 16);
        due("all that they said: none left", x.many(1), 0);
        begin("II, PLAIN: of several sets of two the least");
        // 0 and 3 gainsay each other, 1 and 2 do.
        tell("w00;w00;w00;w00;s00000;s31000;s10011;s21011;");
        due("1 and 2 before 0 and 3", x.plain(), 6);
        begin("II, PLAIN: all that they SAID");
        tell(FOUR_FACTS + "w00;w00;s00000;s10000;s00011;");
        due("0 by two sayings", x.plain(), 1);
    }

    private void plainByAll() {
        begin("II, PLAIN, ORDER: all five WITNESSES");
        tell("l0055;w00;w00;w00;w00;w00;s00000;s10011;s20022;s30033;s40044;");
        due("all of them", x.plain(), 31);
        due("five must come", x.order(0), 5);
        due("the digits of all", x.order(1), 1234);
        x.unsays();
        due("four are too few", x.plain(), -4);
        due("however they come", x.order(0), -4);
    }

    private void plainByNone() {
        begin("II, PLAIN; -4");
        due("no witnesses", x.plain(), -4);
        tell("w00;");
        due("nothing said", x.plain(), -4);
        tell(FOUR_FACTS + "s00000;");
        due("two worlds are left", x.plain(), -4);
        tell("s00011;");
        due("one is", x.plain(), 1);
        x.unsays();
        tell("s01000;");
        due("none is", x.plain(), 1);
    }

    private void orderOfTheLeastDigits() {
        begin("II, ORDER: the fewest, of several the least digits");
        tell(FOUR_FACTS + "w00;w00;w00;w00;w00;s41000;s41011;");
        due("one must come", x.order(0), 1);
        due("the last first, the others from the least on", x.order(1), 40123);
        tell("s31000;s21011;");
        due("one must come", x.order(0), 1);
        due("the fewest come first", x.order(1), 40123);
        x.unsays();
        x.unsays();
        x.unsays();
        tell("s31011;");
        due("two must come", x.order(0), 2);
        due("3 and 4, from the least on", x.order(1), 34012);
        tell("s21000;");
        due("2 and 3 before 3 and 4", x.order(1), 23014);
        tell("s01000;");
        due("0 and 3", x.order(1), 3124);
        begin("II, ORDER: of several the least digits, not the least set");
        tell("w00;w00;w00;w00;s00000;s31000;s10011;s21011;");
        due("0 and 3 before 1 and 2", x.order(1), 312);
    }

    private void orderOfNone() {
        begin("II, ORDER; -4");
        tell(FOUR_FACTS + "w00;s00000;");
        due("two worlds are left", x.order(0), -4);
        due("no order", x.order(1), -4);
        begin("II, ORDER: nobody must come");
        tell("l6000;w00;w00;");
        due("no world may be", x.order(0), 0);
        due("the least digits", x.order(1), 1);
        begin("II, ORDER of one");
        tell("l6000;w00;");
        due("nobody must come", x.order(0), 0);
        due("0 alone", x.order(1), 0);
    }

    private void orderWithoutWitnesses() {
        begin("II, ORDER, no WITNESSES");
        due("how many", x.order(0), -3);
        due("the digits", x.order(1), -3);
        rules(EXPERT, 0, 0);
        due("though no world may be", x.order(0), -3);
    }

    private void withoutOne() {
        begin("II, WITHOUT one");
        tell("w00;w00;s00000;s00011;s01000;s10033;");
        due("of whom two clash", x.without(0), 32);
        due("none is left without the other", x.without(1), 0);
        due("behind the last", x.without(2), -1);
        begin("II, WITHOUT one who said nothing");
        tell("w00;");
        due("none more", x.without(0), 0);
    }

    private void lieOfNone() {
        begin("II, A LIE; -4");
        tell("w00;w01;");
        due("who knows nothing", x.lie(0, 0), 0);
        due("no best", x.lie(0, 1), -4);
        due("none left", x.lie(0, 2), -4);
        // Of fact 0, not so in world 0: says and experts with any b 6 each, both, either, poet of figure 0 one each.
        due("who knows fact 0", x.lie(1, 0), 15);
        x.truth(1);
        // Denies and experts 6 each.
        due("in world 1", x.lie(1, 0), 12);
        due("the first of experts", x.lie(1, 1), 600);
        begin("II, A LIE of who knows all");
        tell("w63;");
        // Says 36, both 36, either 36, experts 36, poets 36.
        due("in world 0", x.lie(0, 0), 180);
        x.truth(63);
        // Denies 36, experts 36.
        due("in world 63", x.lie(0, 0), 72);
    }

    private void lieOfSeveral() {
        begin("II, A LIE: of several the first by 100 times KIND, 10 times a and b");
        tell("w48;");
        due("experts take nothing away", x.lie(0, 2), 64);
        due("the first of them", x.lie(0, 1), 640);
        tell("s00044;");
        due("what was said takes no more", x.lie(0, 1), 40);
        due("so many", x.lie(0, 2), 32);
        tell("s02055;");
        due("still the first", x.lie(0, 1), 40);
        begin("II, A LIE: of several by b");
        tell("w06;s02012;s02112;");
        due("the first of those that take no more", x.lie(0, 1), 212);
        due("so many", x.lie(0, 2), 48);
    }

    private void lieOfPoets() {
        begin("II, A LIE of FIGURE 0");
        tell("w03;w02;t02;");
        // Says 6, denies 6, both 3, either 1, if 1, alike 2, experts 12, a poet of 0 twice.
        due("who knows 0 and 1", x.lie(0, 0), 32);
        // Denies 6, experts 6: poets are about 0.
        due("who knows 1 alone", x.lie(1, 0), 12);
    }

    private void lieWhereNoneIsLeft() {
        begin("II, A LIE, none LEFT");
        tell("l6000;w32;");
        due("how many lies", x.lie(0, 0), 14);
        due("the first of all", x.lie(0, 1), 50);
        due("none left", x.lie(0, 2), 0);
    }

    private void twoLiesOfNone() {
        begin("II, TWO LIES; -4");
        tell("w00;w00;w63;w01;");
        due("neither has one", x.twoLies(0, 1), -4);
        due("the first has none", x.twoLies(0, 2), -4);
        due("the other has none", x.twoLies(2, 0), -4);
        due("both have", x.twoLies(2, 3), 64);
        due("both have", x.twoLies(3, 2), 64);
        due("one twice", x.twoLies(2, 2), -1);
        due("one twice who has none", x.twoLies(0, 0), -1);
        due("the last and one behind", x.twoLies(3, 4), -1);
        due("one behind and the last", x.twoLies(4, 3), -1);
        tell("s00000;s01000;");
        due("none left", x.twoLies(2, 3), 0);
    }

    private void tellsOfNoneAndOfAll() {
        begin("II, TELLS: none, all");
        x.keep(1, 1, EXPERT, 9);
        due("an expert takes none away", x.tells(1, 0, 0), 0);
        x.keep(1, 1, IF, 0);
        due("what is always true takes all away", x.tells(1, 3, 3), 64);
        rules(SAYS, 0, 0);
        due("of those that may be", x.tells(1, 3, 3), 32);
        tell("w00;s01000;s00000;");
        due("of none left", x.tells(1, 3, 3), 0);
    }

    private void nobodyDeniedOfNoneAndOfAll() {
        begin("II, NOBODY DENIED: none, all");
        due("the truth has none", x.verdict(), 0);
        x.truth(63);
        due("nothing said", x.verdict(), 63);
        rules(BOTH, 0, 1);
        due("laws are not said", x.verdict(), 63);
        tell("w00;s02001;s02023;s00044;");
        due("all but 5", x.verdict(), 32);
        says(0, DENIES, 5, 0);
        due("all said", x.verdict(), 0);
    }

    private void certainWhereThereIsNone() {
        begin("II, CERTAIN of all, if there is none");
        tell("w01;w00;s00000;t01;");
        due("none is as the truth", x.certain(0), 63);
        due("for one who knows nothing there are some", x.certain(1), 1);
        tell("s01000;");
        due("none is left", x.certain(1), 63);
        begin("II, CERTAIN, no WORLD may be");
        tell("l6000;w00;");
        due("none is left", x.certain(0), 63);
    }

    private void certainOfNothingAndOfAll() {
        begin("II, CERTAIN of nothing, of all");
        tell("w00;w63;w31;t09;");
        due("who knows nothing", x.certain(0), 0);
        due("who knows all", x.certain(1), 63);
        due("who knows all but 5", x.certain(2), 31);
        tell("l0055;t41;");
        due("and 5 by law", x.certain(2), 63);
        due("who knows nothing, by law", x.certain(0), 32);
    }

    private void knowsOfWhereThereIsNone() {
        begin("II, IT KNOWS OF ANOTHER, there is none");
        tell("w01;w00;s00000;t01;");
        due("none is as the first knows: all", x.knowsOf(0, 1), 63);
        due("of himself, too", x.knowsOf(0, 0), 63);
        // In each world left the first would know that 0 is not so, and nothing else.
        due("the other way", x.knowsOf(1, 0), 1);
        begin("II, IT KNOWS OF ANOTHER, no WORLD may be");
        tell("l6000;w00;w63;");
        due("none is left: all", x.knowsOf(0, 1), 63);
    }

    private void knowsOfOneself() {
        begin("II, IT KNOWS OF ANOTHER, one and the same");
        tell("w05;w63;w00;");
        due("what he is certain of", x.knowsOf(0, 0), 5);
        due("of who knows all", x.knowsOf(0, 1), 63);
        due("of who knows nothing", x.knowsOf(1, 2), 0);
        due("behind the last", x.knowsOf(2, 3), -1);
        due("behind the last", x.knowsOf(3, 2), -1);
        due("neither", x.knowsOf(-1, LEAST), -1);
    }

    private void allKnowDepths() {
        begin("II, ALL KNOW to a depth n (0 .. 5)");
        tell("l4001;l4012;l4023;l4034;l4045;w21;w42;t63;");
        due("depth 0", x.allKnow(0), 62);
        due("depth 5", x.allKnow(5), 0);
        due("depth 4", x.allKnow(4), 32);
        due("depth 6", x.allKnow(6), -1);
        for (int n : OUTSIDE) {
            due("depth " + n, x.allKnow(n), -1);
        }
    }

    private void allKnowByWorld0() {
        begin("II, ALL KNOW: one after the other, by WORLD 0");
        // Worlds 0, 1, 2 are left: from 1 one comes to 0 by him who knows 1, from there to 2 by him who knows 0.
        tell("l1022;l1033;l1044;l1055;w02;w01;s02001;t01;");
        due("depth 0", x.allKnow(0), 62);
        due("depth 1", x.allKnow(1), 60);
        due("depth 5", x.allKnow(5), 60);
        begin("II, ALL KNOW: one after the other, by WORLD 63");
        tell("l0022;l0033;l0044;l0055;l3001;w02;w01;t62;");
        // Worlds 61, 62, 63 may be: from 62 to 63, from there to 61.
        due("depth 0", x.allKnow(0), 62);
        due("depth 1", x.allKnow(1), 60);
    }

    private void allKnowWhereThereIsNone() {
        begin("II, ALL KNOW, none LEFT");
        tell("w00;s00000;s01000;");
        due("depth 0", x.allKnow(0), 63);
        due("depth 5", x.allKnow(5), 63);
        begin("II, ALL KNOW, all are as the TRUTH");
        tell("w63;w63;t63;");
        due("depth 0", x.allKnow(0), 63);
        due("depth 5", x.allKnow(5), 63);
        begin("II, ALL KNOW, one knows nothing");
        tell("w63;w00;t63;");
        due("depth 0", x.allKnow(0), 0);
        begin("II, ALL KNOW, no WITNESSES");
        due("depth 0", x.allKnow(0), -3);
        due("depth 5", x.allKnow(5), -3);
        due("depth 6", x.allKnow(6), -1);
    }

    private void allKnowOfATruthThatIsNotLeft() {
        begin("II, ALL KNOW: in all of these it is as in the TRUTH, which is not LEFT");
        tell("l2001;l2023;l2045;w00;t15;");
        due("he is certain of all", x.certain(0), 63);
        due("4 and 5 are not as in the truth", x.allKnow(0), 15);
        due("nor in any depth", x.allKnow(5), 15);
        x.witness(32);
        due("one more, who takes none", x.allKnow(0), 15);
        x.truth(63);
        due("a truth that is left", x.allKnow(0), 63);
    }

    private void pencilsAtTheEnds() {
        begin("II, PENCILS: t tenths (1 .. 9), n or more (0 .. 12)");
        long all = 1000000000000L;
        long nineTenths = 282429536481L;
        due("t 1, n 12, above", x.pencils(1, 12, 0), 1);
        due("t 1, n 12, below", x.pencils(1, 12, 1), all);
        due("t 9, n 12, above", x.pencils(9, 12, 0), nineTenths);
        due("t 9, n 12, below", x.pencils(9, 12, 1), all);
        due("t 1, n 1, above", x.pencils(1, 1, 0), all - nineTenths);
        due("t 9, n 1, above", x.pencils(9, 1, 0), all - 1);
        due("t 9, n 11, above", x.pencils(9, 11, 0), nineTenths + 12 * nineTenths / 9);
        for (int t = 1; t <= 9; t++) {
            due("t " + t + ", n 0, above", x.pencils(t, 0, 0), 1);
            due("t " + t + ", n 0, below", x.pencils(t, 0, 1), 1);
        }
        due("t 0", x.pencils(0, 1, 0), OF_LONGS + 1);
        due("t 10", x.pencils(10, 1, 0), OF_LONGS + 1);
        due("n 13", x.pencils(1, 13, 0), OF_LONGS + 1);
        due("part 2", x.pencils(1, 1, 2), OF_LONGS + 1);
        for (int outside : OUTSIDE) {
            due("t " + outside, x.pencils(outside, 1, 0), OF_LONGS + 1);
            due("n " + outside, x.pencils(1, outside, 0), OF_LONGS + 1);
            due("part " + outside, x.pencils(1, 1, outside), OF_LONGS + 1);
        }
    }

    private void fitsByNothing() {
        begin("II, FITS by an empty ROW");
        fill(1, 0);
        due("nothing said", x.fits(1), -1L);
        tell("l0055;w00;s00000;");
        due("all that may be", x.fits(1), 0xFFFFFFFF00000000L);
        rules(EXPERT, 0, 0);
        due("none may be", x.fits(1), 0);
    }

    private void fitsByAFullRow() {
        begin("II, FITS by a number for each SAID");
        tell("w00;s00000;s00000;s00000;s00000;s00000;s00000;s00000;s00000;s00000;");
        fill(1, 0, 1, 1, 1, 1, 1, 1, 1, 1, 1);
        due("nine", x.fits(1), 0xAAAAAAAAAAAAAAAAL);
        says(0, DENIES, 0, 0);
        fill(1, 0, 1, 1, 1, 1, 1, 1, 1, 1, 1, 0);
        due("ten", x.fits(1), 0xAAAAAAAAAAAAAAAAL);
        fill(1, 0, 1, 1, 1, 1, 1, 1, 1, 1, 1, 1);
        due("ten that are not so", x.fits(1), 0);
        fill(1, 0, 1, 1, 1, 1, 1, 1, 1, 1, 1, 0, 0);
        due("eleven", x.fits(1), OF_LONGS + 13);
        x.row(1, 2, 100);
        due("a hundred", x.fits(1), OF_LONGS + 13);
        begin("II, FITS, nothing SAID");
        fill(1, 1, 0);
        due("one", x.fits(1), OF_LONGS + 13);
        fill(1, 1, LEAST_SHORT);
        due("one, skipped", x.fits(1), OF_LONGS + 13);
    }

    private void fitsSkipsTheLeast() {
        begin("II, FITS: the least number of the SORT is skipped");
        tell("w00;s00000;s00011;");
        fill(1, 0, LEAST_BYTE, 1);
        due("of bytes", x.fits(1), 0xCCCCCCCCCCCCCCCCL);
        fill(1, 1, LEAST_SHORT, 1);
        due("of shorts", x.fits(1), 0xCCCCCCCCCCCCCCCCL);
        fill(1, 2, LEAST, 1);
        due("of ints", x.fits(1), 0xCCCCCCCCCCCCCCCCL);
        fill(1, 0, LEAST_BYTE, LEAST_BYTE);
        due("all skipped", x.fits(1), -1L);
        fill(1, 0, 128, 1);
        due("a byte that becomes the least", x.fits(1), 0xCCCCCCCCCCCCCCCCL);
        fill(1, 0, LEAST_BYTE + 1, 1);
        due("one more than the least of bytes", x.fits(1), OF_LONGS + 13);
        fill(1, 1, LEAST_BYTE, 1);
        due("the least of bytes among shorts", x.fits(1), OF_LONGS + 13);
        fill(1, 2, LEAST_SHORT, 1);
        due("the least of shorts among ints", x.fits(1), OF_LONGS + 13);
        fill(1, 2, GREATEST, 1);
        due("the greatest of ints", x.fits(1), OF_LONGS + 13);
    }

    private void fitsOtherNumbers() {
        begin("II, FITS: 0 it was false, 1 it was TRUE");
        tell("w00;s00000;s00011;");
        fill(1, 0, 0, 2);
        due("2", x.fits(1), OF_LONGS + 13);
        fill(1, 0, -1, 0);
        due("-1", x.fits(1), OF_LONGS + 13);
        fill(1, 1, 1, 256);
        due("256 among shorts", x.fits(1), OF_LONGS + 13);
        fill(1, 0, 1, 256);
        due("256 among bytes becomes 0", x.fits(1), 0x2222222222222222L);
        fill(1, 0, LEAST_BYTE, 3);
        due("behind a skipped one", x.fits(1), OF_LONGS + 13);
    }

    private void judgedByNothing() {
        begin("II, JUDGED by an empty ROW");
        fill(1, 2);
        due("nothing said", x.judge(1), -4);
        tell("w00;s00000;");
        due("one said", x.judge(1), -4);
        begin("II, JUDGED, place 0: MAY BE");
        fill(1, 0, 64);
        due("all may be", x.judge(1), -4);
        fill(1, 0, 63);
        due("one too few", x.judge(1), 0);
        rules(EXPERT, 0, 0);
        fill(1, 0, 0);
        due("none may be", x.judge(1), -4);
    }

    private void judgedByAFullRow() {
        begin("II, JUDGED by a number for each SAID");
        tell("w00;s06000;s06000;s06000;s06000;s06000;s06000;s06000;s06000;s06000;");
        says(0, SAYS, 0, 0);
        fill(1, 0, 64, 64, 64, 64, 64, 64, 64, 64, 64, 64, 32);
        due("eleven", x.judge(1), -4);
        fill(1, 0, 64, 64, 64, 64, 64, 64, 64, 64, 64, 64, 31);
        due("the last is not so", x.judge(1), 10);
        fill(1, 0, 64, 64, 64, 64, 64, 64, 64, 64, 64, 64, 32, 32);
        due("twelve", x.judge(1), 11);
        fill(1, 0, 64, 63, 64, 64, 64, 64, 64, 64, 64, 64, 31);
        due("the first that is not so", x.judge(1), 1);
    }

    private void judgedSkipsTheLeast() {
        begin("II, JUDGED: the least number of the SORT is skipped");
        tell("w00;s00000;");
        fill(1, 0, LEAST_BYTE, 32);
        due("of bytes", x.judge(1), -4);
        fill(1, 1, LEAST_SHORT, 31);
        due("of shorts", x.judge(1), 1);
        fill(1, 2, LEAST, LEAST);
        due("of ints", x.judge(1), -4);
        fill(1, 1, LEAST_BYTE, 32);
        due("the least of bytes among shorts", x.judge(1), 0);
        fill(1, 2, LEAST_SHORT, 32);
        due("the least of shorts among ints", x.judge(1), 0);
        fill(1, 0, LEAST_BYTE + 1, 32);
        due("one more than the least of bytes", x.judge(1), 0);
    }

    private void judgedMoreNumbers() {
        begin("II, JUDGED: more numbers than these, too");
        fill(1, 1, 64, 64);
        due("nothing said", x.judge(1), 1);
        fill(1, 1, 64, 0);
        due("a 0 more", x.judge(1), 1);
        tell("w00;s00000;");
        fill(1, 1, 64, 32, 32);
        due("one said", x.judge(1), 2);
        fill(1, 1, 64, 32, LEAST_SHORT, 32);
        due("behind a skipped one", x.judge(1), 3);
        x.row(1, 2, 100);
        x.put(1, 0, 64);
        x.put(1, 1, 32);
        for (int place = 2; place < 100; place++) {
            x.put(1, place, LEAST);
        }
        due("all of them skipped", x.judge(1), -4);
        x.put(1, 99, 32);
        due("but the last of a hundred", x.judge(1), 99);
    }

    private void trialsFrom1To20() {
        begin("II, SEEDS: n trials (1 .. 20)");
        tell("w00;w00;w00;w00;w00;t63;");
        due("1 trial, slips", x.seeds(1, 0, 0), 5);
        due("1 trial, worlds", x.seeds(1, 0, 1), 4);
        due("20 trials, slips", x.seeds(20, 0, 0), 74);
        due("20 trials, worlds", x.seeds(20, 0, 1), 47);
        due("0 trials", x.seeds(0, 0, 0), -1);
        due("21 trials", x.seeds(21, 0, 0), -1);
        due("what 2", x.seeds(1, 0, 2), -1);
        for (int outside : OUTSIDE) {
            due(outside + " trials", x.seeds(outside, 0, 0), -1);
            due("what " + outside, x.seeds(1, 0, outside), -1);
        }
    }

    private void seedsWithoutWitnesses() {
        begin("II, SEEDS without WITNESSES");
        due("slips", x.seeds(20, 5, 0), 0);
        due("worlds", x.seeds(20, 5, 1), 20 * 64);
        rules(EXPERT, 0, 0);
        due("no world may be", x.seeds(20, 5, 1), 0);
        begin("II, SEEDS with one WITNESS");
        tell("w00;t63;");
        due("slips", x.seeds(20, 0, 0), 16);
        due("worlds", x.seeds(20, 0, 1), 688);
    }

    private void seedsWrapAround() {
        begin("II, a DRAW: an int");
        tell("w00;w00;w00;w00;w00;");
        due("the greatest seed, slips", x.seeds(20, GREATEST, 0), 39);
        due("the greatest seed, worlds", x.seeds(20, GREATEST, 1), 16);
        due("the least seed, slips", x.seeds(20, LEAST, 0), 33);
        due("the least seed, worlds", x.seeds(20, LEAST, 1), 47);
        due("65536, slips", x.seeds(20, 65536, 0), 40);
        due("65536, worlds", x.seeds(20, 65536, 1), 15);
    }

    private void aDrawWithoutItsSign() {
        begin("II, a DRAW: z without its sign's bit");
        tell("w00;w00;w00;t37;");
        for (int z = -3; z <= 12345; z += 617) {
            due("seed " + z + ", slips", x.seeds(20, z, 0), x.seeds(20, z + LEAST, 0));
            due("seed " + z + ", worlds", x.seeds(20, z, 1), x.seeds(20, z + LEAST, 1));
        }
        begin("II, a DRAW from seed -1");
        tell("w00;");
        // It denies 4 (figure 9) first, then 2 (figure 6).
        due("one slip", x.seeds(1, -1, 0), 1);
        due("worlds", x.seeds(1, -1, 1), 32);
        due("two slips", x.seeds(2, -1, 0), 2);
        x.truth(20);
        due("no slip", x.seeds(2, -1, 0), 0);
    }

    private void seedsAskNothingSaid() {
        begin("II, SEEDS, nothing else being SAID");
        tell("w00;t16;s00000;s01000;");
        due("what was said is no slip", x.seeds(1, 0, 0), 1);
        due("what was said takes nothing away", x.seeds(1, 0, 1), 32);
        due("it is still said", x.count(2), 2);
        due("nothing more is said", x.said(2, 0), -1);
        tell("s00000;s00000;s00000;s00000;s00000;s00000;s00000;s00000;");
        due("though there is no room", x.seeds(1, 0, 1), 32);
    }
}
