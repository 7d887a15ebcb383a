/** The edges that part I of the terms names: of facts, worlds, sayings, laws, witnesses, what is said, the text of a trial. */
final class TrialEdges extends CourtTests {
    private static final String SIX_LAWS = "l0000;l0000;l0000;l0000;l0000;l0000;";
    private static final String FIVE_WITNESSES = "w00;w00;w00;w00;w00;";
    private static final String NINE_SAID =
        "s00000;s00000;s00000;s00000;s00000;s00000;s00000;s00000;s00000;";

    TrialEdges(Checks checks) {
        super(checks);
    }

    void runAll() {
        factsAre0To5();
        worldsAre0To63();
        aWorldHasAFactByItsBit();
        theTruthIs0AtFirst();
        figuresAre0To9();
        kindsAre0To7();
        lawsAndSayingsAreTold();
        aSlipIsTrueInTheTruth();
        unsaysNone();
        factsMayBeAlike();
        expertsAreNeverTrue();
        aPoetsFigureIsTakenModulo6();
        sizesWithTheLeastAndTheGreatestFigure();
        aboutOneFactTwice();
        full();
        text();
    }

    private void full() {
        lawsAre6AtMost();
        witnessesAre5AtMost();
        saidAre10AtMost();
        roomComesBack();
        knowsAreBitsOf6Facts();
        lawsOfNoWorld();
        nothingSaid();
    }

    private void text() {
        oneStatementAtLeast();
        aSemicolonBehindEach();
        justAsManyDigitsAsTold();
        lettersAreFour();
        theEndIfSomethingLacks();
        theFirstByteThatGoesWrong();
        bytesBelow0();
        theFirstKindOfFaultIsToldFirst();
        aNumberOutOfRange();
        noSuchWitness();
        noRoomInAText();
        theLetterOfTheFirstStatement();
        oneBehindTheOther();
        withAFaultNothingComes();
        theTruthNeedNotBeAWorldThatMayBe();
        aFullRowOfText();
    }

    private void factsAre0To5() {
        begin("I, FACTS 0 .. 5");
        x.keep(1, 1, SAYS, 0);
        x.witness(0);
        due("isTrue of fact 0", x.isTrue(1, 0, 0, 1), 1);
        due("isTrue of fact 5", x.isTrue(1, 5, 5, 32), 1);
        due("says of fact 5", x.says(0, 1, 5, 5), 0);
        due("rules of fact 5", x.rules(1, 5, 5), 0);
        due("tells of fact 5", x.tells(1, 5, 5), 0);
        due("proof of fact 5", x.proof(5), 0);
        noFact(6);
        for (int fact : OUTSIDE) {
            noFact(fact);
        }
    }

    private void noFact(int fact) {
        due("isTrue of a " + fact, x.isTrue(1, fact, 0, 0), -1);
        due("isTrue of b " + fact, x.isTrue(1, 0, fact, 0), -1);
        due("rules of a " + fact, x.rules(1, fact, 0), -1);
        due("rules of b " + fact, x.rules(1, 0, fact), -1);
        due("says of a " + fact, x.says(0, 1, fact, 0), -1);
        due("says of b " + fact, x.says(0, 1, 0, fact), -1);
        due("tells of a " + fact, x.tells(1, fact, 0), -1);
        due("tells of b " + fact, x.tells(1, 0, fact), -1);
        due("proof of " + fact, x.proof(fact), -1);
    }

    private void worldsAre0To63() {
        begin("I, a WORLD 0 .. 63");
        x.keep(1, 1, DENIES, 0);
        due("isTrue in world 0", x.isTrue(1, 0, 0, 0), 1);
        due("isTrue in world 63", x.isTrue(1, 0, 0, 63), 0);
        due("truth(63)", x.truth(63), 0);
        due("truth(0)", x.truth(0), 63);
        for (int world : OUTSIDE) {
            due("isTrue in world " + world, x.isTrue(1, 0, 0, world), -1);
            due("truth(" + world + ")", x.truth(world), -1);
        }
        due("the truth stays", x.count(3), 0);
    }

    private void aWorldHasAFactByItsBit() {
        begin("I, a WORLD has FACT f if its bit f is 1");
        x.keep(1, 1, SAYS, 0);
        for (int world = 0; world < 64; world++) {
            for (int fact = 0; fact < 6; fact++) {
                due("fact " + fact + " in world " + world, x.isTrue(1, fact, 0, world), world >> fact & 1);
            }
        }
    }

    private void theTruthIs0AtFirst() {
        begin("I, the TRUTH is a WORLD (0 at first)");
        due("count(3)", x.count(3), 0);
        due("truth(1)", x.truth(1), 0);
    }

    private void figuresAre0To9() {
        begin("I, a FIGURE (0 .. 9)");
        due("figure 0", x.keep(1, 1, ALIKE, 0), 0);
        due("cost with figure 0", x.cost(1), 4);
        due("figure 9", x.keep(1, 1, ALIKE, 9), 0);
        due("cost with figure 9", x.cost(1), 13);
        due("figure 10", x.keep(1, 1, ALIKE, 10), -1);
        for (int figure : OUTSIDE) {
            due("figure " + figure, x.keep(1, 1, ALIKE, figure), -1);
        }
        due("the shelf stays", x.cost(1), 13);
    }

    private void kindsAre0To7() {
        begin("I, KINDS 0 .. 7");
        due("kind 0", x.keep(1, 1, 0, 1), 0);
        due("kind 7", x.keep(2, 1, 7, 1), 0);
        due("kind 8", x.keep(1, 1, 8, 1), -1);
        for (int kind : OUTSIDE) {
            due("kind " + kind, x.keep(1, 1, kind, 1), -1);
        }
        due("the shelf stays", x.cost(1), 2);
        due("kind 7 is a poet", x.toss(2), 210);
    }

    private void lawsAndSayingsAreTold() {
        begin("I, a SAYING has a KIND, a FIGURE, two FACTS");
        tell("w00;w00;l7905;");
        due("the law's kind", x.law(0, 0), 7);
        due("the law's figure", x.law(0, 1), 9);
        due("the law's a", x.law(0, 2), 0);
        due("the law's b", x.law(0, 3), 5);
        due("the law's size", x.law(0, 4), 15);
        due("the law is about", x.law(0, 5), 1 + 32 + 8);
        for (int kind = SAYS; kind <= POET; kind++) {
            x.keep(1, 1, kind, 9 - kind);
            x.says(kind % 2, 1, kind % 6, 5 - kind % 6);
            due("kind " + kind, x.said(kind, 0), kind);
            due("figure of kind " + kind, x.said(kind, 1), 9 - kind);
            due("a of kind " + kind, x.said(kind, 2), kind % 6);
            due("b of kind " + kind, x.said(kind, 3), 5 - kind % 6);
            due("who said kind " + kind, x.said(kind, 6), kind % 2);
        }
    }

    private void aSlipIsTrueInTheTruth() {
        begin("I, a SLIP: one that is TRUE in the TRUTH");
        tell("w00;s00055;s01055;s06055;s04055;");
        due("not in world 0", x.said(0, 7), 0);
        due("its denial", x.said(1, 7), 1);
        due("an expert never", x.said(2, 7), 0);
        due("what is always true", x.said(3, 7), 1);
        x.truth(63);
        due("in world 63", x.said(0, 7), 1);
        due("its denial", x.said(1, 7), 0);
        due("an expert never", x.said(2, 7), 0);
        due("what is always true", x.said(3, 7), 1);
    }

    private void unsaysNone() {
        begin("promise 9, -3 none");
        due("nothing said", x.unsays(), -3);
        tell("w00;s00000;");
        due("the last", x.unsays(), 0);
        due("no more", x.unsays(), -3);
        due("none is told", x.said(0, 0), -1);
        due("he who said it stays", x.count(1), 1);
    }

    private void factsMayBeAlike() {
        begin("I, about two FACTS a and b (alike, too)");
        // Of fact 2 twice: in world 0, in world 4; a poet is right in world 1, too.
        int[] in0 = {0, 1, 0, 0, 1, 1, 0, 0};
        int[] in4 = {1, 0, 1, 1, 1, 1, 0, 1};
        int[] in1 = {0, 1, 0, 0, 1, 1, 0, 1};
        for (int kind = SAYS; kind <= POET; kind++) {
            x.keep(1, 1, kind, 0);
            due("kind " + kind + " in world 0", x.isTrue(1, 2, 2, 0), in0[kind]);
            due("kind " + kind + " in world 4", x.isTrue(1, 2, 2, 4), in4[kind]);
            due("kind " + kind + " in world 1", x.isTrue(1, 2, 2, 1), in1[kind]);
        }
    }

    private void expertsAreNeverTrue() {
        begin("I, an EXPERT is never TRUE");
        for (int figure = 0; figure <= 9; figure += 3) {
            x.keep(1, 1, EXPERT, figure);
            for (int world = 0; world < 64; world++) {
                due("figure " + figure + ", world " + world, x.isTrue(1, figure % 6, 5, world), 0);
            }
        }
    }

    private void aPoetsFigureIsTakenModulo6() {
        begin("I, a POET: the FACT FIGURE modulo 6");
        x.witness(0);
        for (int figure = 0; figure <= 9; figure++) {
            int fact = figure < 6 ? figure : figure - 6;
            int a = fact == 0 ? 1 : 0;
            x.keep(1, 1, POET, figure);
            due("figure " + figure + ", in the world with its fact", x.isTrue(1, a, a, 1 << fact), 1);
            due("figure " + figure + ", without", x.isTrue(1, a, a, 63 - (1 << fact) - (1 << a)), 0);
            due("figure " + figure + ", said", x.says(0, 1, a, a), figure);
            due("figure " + figure + ", about", x.said(figure, 5), (1 << fact) + (1 << a));
            due("figure " + figure + ", as told", x.said(figure, 1), figure);
        }
    }

    private void sizesWithTheLeastAndTheGreatestFigure() {
        sizes("I, SIZE with FIGURE 0", 0, new int[] {3, 4, 5, 6, 12, 8, 4, 6});
        sizes("I, SIZE with FIGURE 9", 9, new int[] {3, 4, 5, 6, 12, 8, 4 + 9, 6 + 9});
    }

    private void sizes(String group, int figure, int[] sizes) {
        begin(group);
        x.witness(0);
        int all = 0;
        for (int kind = SAYS; kind <= POET; kind++) {
            x.keep(1, 1, kind, figure);
            x.says(0, 1, 0, 1);
            due("size of kind " + kind, x.said(kind, 4), sizes[kind]);
            all += sizes[kind];
            due("all size", x.count(4), all);
        }
    }

    private void aboutOneFactTwice() {
        begin("I, ABOUT one FACT twice");
        x.witness(0);
        for (int kind = SAYS; kind < POET; kind++) {
            says(0, kind, 5, 5);
            due("kind " + kind, x.said(kind, 5), 32);
        }
        x.keep(1, 1, POET, 5);
        x.says(0, 1, 5, 5);
        due("a poet of its figure, too", x.said(POET, 5), 32);
    }

    private void lawsAre6AtMost() {
        begin("I, LAWS 0 .. 5 (6 at most)");
        x.keep(1, 1, IF, 0);
        due("no law 0", x.law(0, 0), -1);
        for (int law = 0; law < 6; law++) {
            due("law " + law, x.rules(1, 0, 0), law);
            due("it is told", x.law(law, 0), IF);
            due("no law behind it", x.law(law + 1, 0), -1);
        }
        due("a law more", x.rules(1, 0, 0), -2);
        due("count(0)", x.count(0), 6);
    }

    private void witnessesAre5AtMost() {
        begin("I, WITNESSES 0 .. 4 (5 at most)");
        due("no witness 0", x.knows(0), -1);
        for (int w = 0; w < 5; w++) {
            due("witness " + w, x.witness(w + 1), w);
            due("what he knows", x.knows(w), w + 1);
            due("nobody behind him", x.knows(w + 1), -1);
        }
        due("a witness more", x.witness(0), -2);
        due("count(1)", x.count(1), 5);
    }

    private void saidAre10AtMost() {
        begin("I, SAID 0 .. 9 (10 at most)");
        x.keep(1, 1, EITHER, 0);
        x.witness(0);
        due("no said 0", x.said(0, 0), -1);
        for (int s = 0; s < 10; s++) {
            due("said " + s, x.says(0, 1, 0, 0), s);
            due("it is told", x.said(s, 0), EITHER);
            due("nothing behind it", x.said(s + 1, 0), -1);
        }
        due("a saying more", x.says(0, 1, 0, 0), -2);
        due("count(2)", x.count(2), 10);
    }

    private void roomComesBack() {
        begin("I, SAID, full, one unsaid");
        tell("w00;" + NINE_SAID + "s00011;");
        x.keep(1, 1, IF, 0);
        due("full", x.says(0, 1, 5, 5), -2);
        due("unsays()", x.unsays(), 9);
        due("room for one", x.says(0, 1, 5, 5), 9);
        due("that one", x.said(9, 2), 5);
        due("full again", x.says(0, 1, 5, 5), -2);
    }

    private void knowsAreBitsOf6Facts() {
        begin("I, each KNOWS some FACTS (bits)");
        due("nothing", x.witness(0), 0);
        due("all", x.witness(63), 1);
        for (int known : OUTSIDE) {
            due("witness(" + known + ")", x.witness(known), -1);
        }
        due("count(1)", x.count(1), 2);
    }

    private void lawsOfNoWorld() {
        begin("I, MAY BE: no LAW, LAWS against each other");
        due("no law", x.worlds(0), -1L);
        rules(SAYS, 0, 0);
        rules(DENIES, 0, 0);
        due("a law and its denial", x.worlds(0), 0);
        due("nothing is left of nothing", x.worlds(1), 0);
        due("the truth may not be", x.count(5), 0);
    }

    private void nothingSaid() {
        begin("I, LEFT: nothing SAID, all SAID");
        rules(SAYS, 5, 0);
        due("nothing said", x.worlds(1), 0xFFFFFFFF00000000L);
        tell("w00;s00000;s01000;");
        due("a fact said and denied", x.worlds(1), 0);
    }

    private void oneStatementAtLeast() {
        begin("I, STATEMENTS, one at least");
        told("", -1000);
        told("t00;", 1);
    }

    private void aSemicolonBehindEach() {
        begin("I, STATEMENTS, each with \";\" behind");
        told("w05", -1003);
        told("w05,", -1003);
        told("w05 ;", -1003);
        told("w05t00;", -1003);
        told("w05;t00", -1007);
        told("l0000", -1005);
        told("s00000", -1006);
        told("t00;;", -1004);
        told(";", -1000);
        due("nobody", x.count(1), 0);
    }

    private void justAsManyDigitsAsTold() {
        begin("I, just as many digits as told");
        told("w5;", -1002);
        told("w005;", -1003);
        told("t7;", -1002);
        told("t007;", -1003);
        told("l000;", -1004);
        told("l00000;", -1005);
        told("s0000;", -1005);
        told("s000000;", -1006);
        // The signs beside the digits: "/" ahead of "0", ":" behind "9".
        told("w/5;", -1001);
        told("w5/;", -1002);
        told("t:0;", -1001);
        told("t0:;", -1002);
        told("l/000;", -1001);
        told("l000:;", -1004);
        told("s:0000;", -1001);
        told("s0000/;", -1005);
        told("w-1;", -1001);
    }

    private void lettersAreFour() {
        begin("I, the letters of STATEMENTS");
        told("W05;", -1000);
        told("k0000;", -1000);
        told("m0000;", -1000);
        told("r00000;", -1000);
        told("u00;", -1000);
        told("v05;", -1000);
        told("x05;", -1000);
        told("05;", -1000);
        told(" t00;", -1000);
        told("t00; t00;", -1004);
    }

    private void theEndIfSomethingLacks() {
        begin("I, a FAULT of kind 1 at the end, if something lacks");
        told("w", -1001);
        told("w0", -1002);
        told("t", -1001);
        told("t0", -1002);
        told("l", -1001);
        told("l000", -1004);
        told("s", -1001);
        told("s0000", -1005);
        told("t00;w", -1005);
        fill(0, 0, 't', '0', '0', 0);
        due("a 0 stands where the \";\" lacks", x.trial(0), -1003);
    }

    private void theFirstByteThatGoesWrong() {
        begin("I, a FAULT of kind 1 at the first byte");
        told("wxx;", -1001);
        told("t00;w0x;lxx", -1006);
        told("x", -1000);
        told("t00;x;", -1004);
    }

    private void bytesBelow0() {
        begin("I, a FAULT of kind 1 at a byte below 0");
        // A letter's lowest bits, but below 0.
        fill(0, 0, 't' - 128, '0', '0', ';');
        due("no letter", x.trial(0), -1000);
        fill(0, 0, 't', '0' - 128, '0', ';');
        due("no digit", x.trial(0), -1001);
        fill(0, 0, 't', '0', '0', ';' - 128);
        due("no \";\"", x.trial(0), -1003);
        fill(0, 0, 't', '0', '0', ';', -128);
        due("behind a statement", x.trial(0), -1004);
    }

    private void theFirstKindOfFaultIsToldFirst() {
        begin("I, a FAULT of kind 1, else of kind 2");
        told("w64;t0", -1006);
        told("t99;x", -1004);
        told("l8066;s99999", -1012);
        told("s00000;s00000;;", -1014);
        told(SIX_LAWS + "l0000;l", -1043);
    }

    private void aNumberOutOfRange() {
        begin("I, a FAULT of kind 2: a number out of range");
        told("w64;", -2000);
        told("w99;", -2000);
        told("t64;", -2000);
        told("t99;", -2000);
        told("l8000;", -2000);
        told("l9000;", -2000);
        told("l0060;", -2000);
        told("l0006;", -2000);
        told("l0090;", -2000);
        told("l0009;", -2000);
        told("w00;s08000;", -2004);
        told("w00;s00060;", -2004);
        told("w00;s00006;", -2004);
        begin("I, numbers at the ends of their ranges");
        told("w63;w00;t63;t00;l7955;l0000;s07955;s10000;", 8);
    }

    private void noSuchWitness() {
        begin("I, a FAULT of kind 2: no such one");
        told("s00000;", -2000);
        told("s90000;", -2000);
        told("w00;s10000;", -2004);
        told("w00;w00;s20000;", -2008);
        told(FIVE_WITNESSES + "s50000;", -2020);
        told(FIVE_WITNESSES + "s40000;", 6);
    }

    private void noRoomInAText() {
        begin("I, a FAULT of kind 2: no room");
        told(SIX_LAWS + "l0000;", -2036);
        told(FIVE_WITNESSES + "w00;", -2020);
        told("w00;" + NINE_SAID + "s00000;s00000;", -2074);
        told(SIX_LAWS, 6);
        told("l0000;", -2000);
        told(FIVE_WITNESSES, 5);
        told("w00;", -2000);
        told(NINE_SAID, 9);
        told("s00000;s00000;", -2007);
        told("s00000;", 1);
        told("s00000;", -2000);
        told("t63;", 1);
    }

    private void theLetterOfTheFirstStatement() {
        begin("I, a FAULT of kind 2 at the letter of the first STATEMENT");
        told("t00;t64;w64;l8000;", -2004);
        told("w01;w64;t64;", -2004);
        told("w01;l0000;s00006;t64;", -2010);
    }

    private void oneBehindTheOther() {
        begin("I, STATEMENTS are tried one behind the other");
        told("s00000;w00;", -2000);
        told("w00;s00000;", 2);
        told("s10000;w00;", -2000);
        told("t05;t07;", 2);
        due("the last truth", x.count(3), 7);
    }

    private void withAFaultNothingComes() {
        begin("I, with a FAULT nothing comes");
        tell("w01;l5001;s01000;t03;");
        told("w02;l0000;s01022;t07;t64;", -2021);
        told("w02;l0000;s01022;t07;t6", -1023);
        due("laws", x.count(0), 1);
        due("witnesses", x.count(1), 1);
        due("said", x.count(2), 1);
        due("the truth", x.count(3), 3);
        due("the law", x.law(0, 0), ALIKE);
        due("the witness", x.knows(0), 1);
        due("the saying", x.said(0, 0), DENIES);
        told("w02;l0000;s01022;t07;", 4);
        due("then all of it", x.count(3), 7);
    }

    private void theTruthNeedNotBeAWorldThatMayBe() {
        begin("I, the TRUTH need not be a WORLD that MAY BE");
        told("l0000;t00;", 2);
        due("it may not be", x.count(5), 0);
        told("t02;l6000;", 2);
        due("no world may be", x.many(0), 0);
        due("truth(4)", x.truth(4), 2);
    }

    private void aFullRowOfText() {
        begin("I, a text of 100 bytes");
        StringBuilder text = new StringBuilder();
        for (int k = 0; k < 25; k++) {
            text.append("t07;");
        }
        told(text.toString(), 25);
        text.setCharAt(97, '6');
        told(text.toString(), -2096);
        text.setCharAt(99, '0');
        told(text.toString(), -1099);
        text.setLength(92);
        told(text + "l0000;t0", -1100);
    }
}
