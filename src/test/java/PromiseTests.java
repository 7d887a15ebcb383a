/** One test or more for each promise of the document, in its order, the answers worked out by hand. */
final class PromiseTests extends CourtTests {
    PromiseTests(Checks checks) {
        super(checks);
    }

    void runAll() {
        trialAsTold();
        worlds();
        whomToAsk();
        lies();
        whatIsKnown();
        pencilsAndToldTrials();
        imageAndCounts();
        shelves();
    }

    private void trialAsTold() {
        newObject();
        trial();
        trialFaultsOfTheFirstKind();
        trialFaultsOfTheSecondKind();
        trialRoom();
        law();
        said();
        knows();
        isTrue();
        rules();
        says();
        unsays();
        witness();
        truth();
    }

    private void worlds() {
        worldsOf();
        many();
        proved();
        slips();
        alone();
        clash();
        proof();
        slipped();
    }

    private void whomToAsk() {
        ask();
        plain();
        order();
        without();
    }

    private void lies() {
        lie();
        twoLies();
        tells();
        verdict();
    }

    private void whatIsKnown() {
        certain();
        knowsOf();
        allKnow();
    }

    private void pencilsAndToldTrials() {
        pencils();
        fits();
        judge();
        seeds();
    }

    private void imageAndCounts() {
        image();
        restore();
        count();
    }

    private void shelves() {
        keep();
        row();
        put();
        element();
        copy();
        cost();
        toss();
    }

    private void newObject() {
        begin("promise 1, a new object");
        due("count(0)", x.count(0), 0);
        due("count(1)", x.count(1), 0);
        due("count(2)", x.count(2), 0);
        due("count(3)", x.count(3), 0);
        due("count(4)", x.count(4), 0);
        due("count(5)", x.count(5), 1);
        due("count(6)", x.count(6), 1);
        due("many(0)", x.many(0), 64);
        due("restore()", x.restore(), -3);
        for (int d = 0; d < 8; d++) {
            due("cost of a new shelf", x.cost(d), -11);
        }
        WitnessesMustLie other = new WitnessesMustLie();
        other.witness(5);
        due("witnesses beside another object", x.count(1), 0);
    }

    private void trial() {
        begin("promise 2, trial");
        told("w05;w12;l4001;t05;s11934;", 5);
        due("count(0)", x.count(0), 1);
        due("count(1)", x.count(1), 2);
        due("count(2)", x.count(2), 1);
        due("count(3)", x.count(3), 5);
        due("knows(1)", x.knows(1), 12);
        due("said(0, 0)", x.said(0, 0), 1);
        due("said(0, 1)", x.said(0, 1), 9);
        due("said(0, 2)", x.said(0, 2), 3);
        due("said(0, 3)", x.said(0, 3), 4);
        due("said(0, 6)", x.said(0, 6), 1);
        due("the row stays", x.element(0, 0), 'w');
        told("w00;", 1);
        due("a trial comes to what there is", x.count(1), 3);
        due("trial(-1)", x.trial(-1), -1);
        due("trial(8)", x.trial(8), -1);
        due("trial(LEAST)", x.trial(LEAST), -1);
        due("trial of nothing", x.trial(3), -11);
        x.keep(3, 1, 0, 1);
        due("trial of a saying", x.trial(3), -12);
        x.row(3, 1, 4);
        due("trial of shorts", x.trial(3), -12);
        x.row(3, 2, 4);
        due("trial of ints", x.trial(3), -12);
    }

    private void trialFaultsOfTheFirstKind() {
        begin("promise 2, trial, faults of kind 1");
        told("", -1000);
        told("x", -1000);
        told(";", -1000);
        told("w", -1001);
        told("w0", -1002);
        told("w05", -1003);
        told("w5;", -1002);
        told("w005;", -1003);
        told("w:5;", -1001);
        told("w/5;", -1001);
        told("W05;", -1000);
        told("l000;", -1004);
        told("l0000", -1005);
        told("l00000;", -1005);
        told("t0;", -1002);
        told("t00;;", -1004);
        told("t00; ", -1004);
        told("s0000;", -1005);
        told("s00000", -1006);
        told("w05;s00000;t1", -1013);
        told("w99;t1x;", -1006);
        told("t99x", -1003);
        due("count(1)", x.count(1), 0);
        told("w05" + (char) 200, -1003);
        StringBuilder full = new StringBuilder();
        for (int k = 0; k < 25; k++) {
            full.append("t07;");
        }
        told(full.toString(), 25);
        full.setCharAt(99, '0');
        told(full.toString(), -1099);
    }

    private void trialFaultsOfTheSecondKind() {
        begin("promise 2, trial, faults of kind 2");
        told("w64;", -2000);
        told("w99;", -2000);
        told("t64;", -2000);
        told("l8000;", -2000);
        told("l0060;", -2000);
        told("l0006;", -2000);
        told("s00000;", -2000);
        told("s00000;w00;", -2000);
        told("w00;s10000;", -2004);
        told("w00;s08000;", -2004);
        told("w00;s00060;", -2004);
        told("w00;s00006;", -2004);
        told("w00;t05;l0000;s00000;t64;w64;", -2021);
        due("count(0)", x.count(0), 0);
        due("count(1)", x.count(1), 0);
        due("count(2)", x.count(2), 0);
        due("count(3)", x.count(3), 0);
        told("w63;t63;l7955;s07955;", 4);
        due("knows(0)", x.knows(0), 63);
        due("law(0, 1)", x.law(0, 1), 9);
        due("count(3)", x.count(3), 63);
        told("s00000;", 1);
    }

    private void trialRoom() {
        begin("promise 2, trial, no room");
        told("w00;w01;w02;w03;w04;w05;", -2020);
        told("w00;w01;w02;w03;w04;", 5);
        told("w00;", -2000);
        told("l0000;l0000;l0000;l0000;l0000;l0000;l0000;", -2036);
        told("l0000;l0000;l0000;l0000;l0000;l0000;", 6);
        told("t01;l0000;", -2004);
        due("count(3)", x.count(3), 0);
        String nine = "s00000;s00000;s00000;s00000;s00000;s00000;s00000;s00000;s00000;";
        told(nine + "s40000;s00000;", -2070);
        told(nine + "s40000;", 10);
        told("s00000;", -2000);
    }

    private void law() {
        begin("promise 3, law");
        tell("l3045;l7834;");
        due("law(0, 0)", x.law(0, 0), EITHER);
        due("law(0, 4)", x.law(0, 4), 6);
        due("law(0, 5)", x.law(0, 5), 16 + 32);
        due("law(1, 0)", x.law(1, 0), POET);
        due("law(1, 1)", x.law(1, 1), 8);
        due("law(1, 2)", x.law(1, 2), 3);
        due("law(1, 3)", x.law(1, 3), 4);
        due("law(1, 4)", x.law(1, 4), 14);
        due("law(1, 5)", x.law(1, 5), 8 + 16 + 4);
        due("law(2, 0)", x.law(2, 0), -1);
        due("law(-1, 0)", x.law(-1, 0), -1);
        due("law(0, 6)", x.law(0, 6), -1);
        due("law(0, -1)", x.law(0, -1), -1);
        due("law(GREATEST, LEAST)", x.law(GREATEST, LEAST), -1);
    }

    private void said() {
        begin("promise 4, said");
        tell("w00;w00;t02;s00101;s11101;s02101;s13123;s04120;s15101;s06501;s17551;");
        int[] sizes = {3, 4, 5, 6, 12, 8, 4 + 5, 6 + 5};
        int[] about = {1, 1, 1 + 2, 4 + 8, 4 + 1, 1 + 2, 1, 32 + 2};
        // The truth has fact 1 alone.
        int[] slip = {0, 1, 0, 0, 1, 0, 0, 1};
        for (int s = 0; s < 8; s++) {
            due("said(" + s + ", 0)", x.said(s, 0), s);
            due("said(" + s + ", 4)", x.said(s, 4), sizes[s]);
            due("said(" + s + ", 5)", x.said(s, 5), about[s]);
            due("said(" + s + ", 6)", x.said(s, 6), s % 2);
            due("said(" + s + ", 7)", x.said(s, 7), slip[s]);
        }
        due("said(6, 1)", x.said(6, 1), 5);
        due("said(7, 2)", x.said(7, 2), 5);
        due("said(7, 3)", x.said(7, 3), 1);
        due("said(8, 0)", x.said(8, 0), -1);
        due("said(-1, 0)", x.said(-1, 0), -1);
        due("said(0, 8)", x.said(0, 8), -1);
        due("said(0, -1)", x.said(0, -1), -1);
    }

    private void knows() {
        begin("promise 5, knows");
        x.witness(0);
        x.witness(63);
        due("knows(0)", x.knows(0), 0);
        due("knows(1)", x.knows(1), 63);
        due("knows(2)", x.knows(2), -1);
        due("knows(-1)", x.knows(-1), -1);
        due("knows(GREATEST)", x.knows(GREATEST), -1);
    }

    private void isTrue() {
        begin("promise 6, isTrue");
        // Of worlds 0, 1, 2, 3: those in which it is true of facts 0 and 1, as bits.
        int[] trueIn = {8 + 2, 4 + 1, 8, 8 + 4 + 2, 8 + 4 + 1, 8 + 1, 0, 8 + 4 + 2};
        for (int kind = SAYS; kind <= POET; kind++) {
            x.keep(1, 1, kind, 2);
            for (int world = 0; world < 4; world++) {
                due("isTrue of kind " + kind + " in world " + world, x.isTrue(1, 0, 1, world), trueIn[kind] >> world & 1);
            }
        }
        due("a poet's figure", x.isTrue(1, 0, 1, 4), 1);
        x.keep(1, 1, POET, 9);
        due("a poet's figure above 5", x.isTrue(1, 0, 1, 8), 1);
        due("a poet's figure above 5", x.isTrue(1, 0, 1, 4), 0);
        x.keep(1, 1, IF, 0);
        due("if a fact, the same", x.isTrue(1, 5, 5, 32), 1);
        x.keep(1, 1, EITHER, 0);
        due("either a fact or the same", x.isTrue(1, 5, 5, 31), 0);
        due("isTrue(8, ..)", x.isTrue(8, 0, 0, 0), -1);
        due("isTrue(-1, ..)", x.isTrue(-1, 0, 0, 0), -1);
        due("a 6", x.isTrue(1, 6, 0, 0), -1);
        due("a -1", x.isTrue(1, -1, 0, 0), -1);
        due("b 6", x.isTrue(1, 0, 6, 0), -1);
        due("b -1", x.isTrue(1, 0, -1, 0), -1);
        due("world 64", x.isTrue(1, 0, 0, 64), -1);
        due("world -1", x.isTrue(1, 0, 0, -1), -1);
        due("nothing held, world 64", x.isTrue(2, 0, 0, 64), -1);
        due("nothing held", x.isTrue(2, 0, 0, 63), -11);
        x.row(2, 0, 1);
        due("a row", x.isTrue(2, 0, 0, 63), -12);
    }

    private void rules() {
        begin("promise 7, rules");
        x.keep(1, 1, POET, 9);
        due("rules(1, 4, 5)", x.rules(1, 4, 5), 0);
        due("law(0, 0)", x.law(0, 0), POET);
        due("law(0, 1)", x.law(0, 1), 9);
        due("law(0, 2)", x.law(0, 2), 4);
        due("law(0, 3)", x.law(0, 3), 5);
        due("the shelf keeps it", x.cost(1), 18);
        due("rules(8, 0, 0)", x.rules(8, 0, 0), -1);
        due("rules(1, 6, 0)", x.rules(1, 6, 0), -1);
        due("rules(1, 0, -1)", x.rules(1, 0, -1), -1);
        due("nothing held, no such fact", x.rules(2, 0, 6), -1);
        due("nothing held", x.rules(2, 0, 0), -11);
        x.row(2, 0, 1);
        due("a row", x.rules(2, 0, 0), -12);
        for (int law = 1; law < 6; law++) {
            due("rules(1, 0, 0)", x.rules(1, 0, 0), law);
        }
        due("no room", x.rules(1, 0, 0), -2);
        due("a row and no room", x.rules(2, 0, 0), -12);
        due("count(0)", x.count(0), 6);
    }

    private void says() {
        begin("promise 8, says");
        x.keep(1, 1, IF, 3);
        due("no such witness", x.says(0, 1, 0, 0), -1);
        x.witness(0);
        x.witness(0);
        due("says(1, 1, 2, 3)", x.says(1, 1, 2, 3), 0);
        due("said(0, 0)", x.said(0, 0), IF);
        due("said(0, 1)", x.said(0, 1), 3);
        due("said(0, 2)", x.said(0, 2), 2);
        due("said(0, 3)", x.said(0, 3), 3);
        due("said(0, 6)", x.said(0, 6), 1);
        due("says(2, ..)", x.says(2, 1, 0, 0), -1);
        due("says(-1, ..)", x.says(-1, 1, 0, 0), -1);
        due("shelf 8", x.says(0, 8, 0, 0), -1);
        due("fact 6", x.says(0, 1, 6, 0), -1);
        due("fact -1", x.says(0, 1, 0, -1), -1);
        due("nothing held, no such witness", x.says(5, 2, 0, 0), -1);
        due("nothing held", x.says(0, 2, 0, 0), -11);
        x.row(2, 0, 0);
        due("a row", x.says(0, 2, 0, 0), -12);
        for (int s = 1; s < 10; s++) {
            due("says(0, 1, 0, 0)", x.says(0, 1, 0, 0), s);
        }
        due("no room", x.says(0, 1, 0, 0), -2);
        due("a row and no room", x.says(0, 2, 0, 0), -12);
        due("count(2)", x.count(2), 10);
    }

    private void unsays() {
        begin("promise 9, unsays");
        due("none", x.unsays(), -3);
        tell("w00;s00000;s01011;s02022;");
        due("unsays()", x.unsays(), 2);
        due("the last is no more", x.said(2, 0), -1);
        due("the one ahead stays", x.said(1, 0), 1);
        due("unsays()", x.unsays(), 1);
        due("unsays()", x.unsays(), 0);
        due("none", x.unsays(), -3);
        due("says again", says(0, ALIKE, 0, 1), 0);
        due("said(0, 0)", x.said(0, 0), ALIKE);
    }

    private void witness() {
        begin("promise 10, witness");
        due("witness(-1)", x.witness(-1), -1);
        due("witness(64)", x.witness(64), -1);
        for (int w = 0; w < 5; w++) {
            due("witness(" + 10 * w + ")", x.witness(10 * w), w);
        }
        due("no room", x.witness(0), -2);
        due("out of its range and no room", x.witness(64), -1);
        due("knows(4)", x.knows(4), 40);
        due("count(1)", x.count(1), 5);
    }

    private void truth() {
        begin("promise 11, truth");
        due("truth(63)", x.truth(63), 0);
        due("truth(7)", x.truth(7), 63);
        due("truth(64)", x.truth(64), -1);
        due("truth(-1)", x.truth(-1), -1);
        due("it stays", x.count(3), 7);
        rules(EXPERT, 0, 0);
        due("a truth that may not be", x.truth(0), 7);
    }

    private void worldsOf() {
        begin("promise 12, worlds");
        due("all may be", x.worlds(0), -1L);
        due("all are left", x.worlds(1), -1L);
        rules(SAYS, 5, 0);
        due("those with fact 5 may be", x.worlds(0), 0xFFFFFFFF00000000L);
        x.witness(0);
        says(0, SAYS, 0, 0);
        due("those with fact 5 and not fact 0 are left", x.worlds(1), 0x5555555500000000L);
        due("what is said changes nothing in what may be", x.worlds(0), 0xFFFFFFFF00000000L);
        says(0, IF, 1, 2);
        // Fact 5, not 0, 1, not 2: in each byte of the upper half bit 2 alone.
        due("if 1 then 2 is false", x.worlds(1), 0x0404040400000000L);
        rules(EXPERT, 3, 3);
        due("experts as laws", x.worlds(0), 0);
        due("worlds(2)", x.worlds(2), OF_LONGS + 1);
        due("worlds(-1)", x.worlds(-1), OF_LONGS + 1);
    }

    private void many() {
        begin("promise 13, many");
        due("many(0)", x.many(0), 64);
        rules(EITHER, 0, 1);
        due("one or the other", x.many(0), 48);
        x.witness(0);
        says(0, BOTH, 0, 1);
        due("one, not both", x.many(1), 32);
        due("many(0)", x.many(0), 48);
        says(0, DENIES, 0, 0);
        due("just the one", x.many(1), 16);
        says(0, SAYS, 0, 0);
        due("none", x.many(1), 0);
        due("many(2)", x.many(2), -1);
        due("many(-1)", x.many(-1), -1);
    }

    private void proved() {
        begin("promise 14, proved");
        due("proved(0)", x.proved(0), 0);
        due("proved(1)", x.proved(1), 0);
        rules(IF, 0, 1);
        tell("w00;s01000;s00033;");
        due("0 as its denial is false, 1 by law", x.proved(0), 3);
        due("refuted", x.proved(1), 8);
        due("proved(2)", x.proved(2), -1);
        due("proved(-1)", x.proved(-1), -1);
        says(0, SAYS, 0, 0);
        due("none left: all proved", x.proved(0), 63);
        due("none left: all refuted", x.proved(1), 63);
    }

    private void slips() {
        begin("promise 15, slips");
        due("slips(0)", x.slips(0), 0);
        due("no first", x.slips(1), -4);
        tell("w00;t05;s00001;s00011;s05002;s01011;s06000;");
        due("said 0, 2 and 3 are true", x.slips(0), 1 + 4 + 8);
        due("the first", x.slips(1), 0);
        x.truth(4);
        // Then 0 is not so, 0 and 2 are not alike, 1 is denied.
        due("slips(0)", x.slips(0), 8);
        due("the first", x.slips(1), 3);
        due("slips(2)", x.slips(2), -1);
        due("slips(-1)", x.slips(-1), -1);
    }

    private void alone() {
        begin("promise 16, alone");
        tell("w00;l0055;s00000;s03001;s06000;s00055;");
        due("alone(0)", x.alone(0), 16);
        due("alone(1)", x.alone(1), 8);
        due("an expert leaves all", x.alone(2), 32);
        due("against a law", x.alone(3), 0);
        due("alone(4)", x.alone(4), -1);
        due("alone(-1)", x.alone(-1), -1);
    }

    private void clash() {
        begin("promise 17, clash");
        due("nothing said", x.clash(), -4);
        tell("w00;l0055;s00055;s00011;s02023;s01044;s01011;s00044;");
        due("said 0 can't be false alone: 1 and 4", x.clash(), 14);
        x.unsays();
        x.unsays();
        due("no two", x.clash(), -4);
        says(0, SAYS, 4, 0);
        due("3 and 4", x.clash(), 34);
        begin("promise 17, clash by three");
        tell("w00;s00000;s00011;s05001;s01001;");
        due("0 and 3, not those three that can't be false together", x.clash(), 3);
        x.unsays();
        due("no two of three", x.clash(), -4);
        rules(EXPERT, 0, 0);
        due("no world may be", x.clash(), -4);
    }

    private void proof() {
        begin("promise 18, proof");
        due("nothing proves it", x.proof(0), -4);
        tell("w00;l4001;l0055;s01000;s01011;s04034;s01022;");
        due("by what is said first", x.proof(0), 1);
        due("by 0 and a law, or by 1: the least set", x.proof(1), 1);
        due("proof(2)", x.proof(2), 8);
        due("proof(3)", x.proof(3), 4);
        due("never", x.proof(4), -4);
        due("by laws alone", x.proof(5), 0);
        due("proof(6)", x.proof(6), -1);
        due("proof(-1)", x.proof(-1), -1);
        begin("promise 18, proof by two");
        tell("w00;s02001;s05001;s00000;s00044;s01044;");
        due("not both, not alike, not 0: so 1; 1 and 2 do", x.proof(1), 2 + 4);
        due("3 and 4 leave none, 4 alone proves", x.proof(4), 16);
        begin("promise 18, proof of which nothing is left");
        tell("w00;s00044;s01044;");
        x.unsays();
        due("none", x.proof(0), -4);
        rules(EXPERT, 0, 0);
        due("no world may be", x.proof(0), -4);
    }

    private void slipped() {
        begin("promise 19, slipped");
        due("nobody", x.slipped(), 0);
        tell("w00;l0000;s00011;s00000;s01011;s00000;");
        due("said 1 and 3 by law, 0 or 2", x.slipped(), 1 + 2 + 8);
        begin("promise 19, slipped, the fewest");
        tell("w00;s01000;s01011;s02001;");
        due("0 and 1 true, or 2: the fewest", x.slipped(), 1);
        says(0, SAYS, 0, 0);
        // Fact 0 makes 3 true, without it 0 is; with 1 but not 0 all else is false.
        due("0 alone", x.slipped(), 1);
        says(0, EITHER, 0, 1);
        due("said 0 and 4, or 0 and 1: the least", x.slipped(), 1 + 2);
        rules(EXPERT, 0, 0);
        due("no world may be", x.slipped(), -4);
        begin("promise 19, slipped, the edges");
        tell("w00;l0055;s00055;s00055;s00055;s00055;s00055;s00055;s00055;s00055;s00055;s00055;");
        due("all ten, by law", x.slipped(), 1023);
        begin("promise 19, slipped, world 0");
        tell("w00;l1000;l1011;l1022;l1033;l1044;l1055;s01000;");
        due("world 0 alone may be", x.slipped(), 1);
    }

    private void ask() {
        begin("promise 20, ask");
        due("all alike: the least", x.ask(), 0);
        rules(SAYS, 0, 0);
        due("0 parts nothing", x.ask(), 1);
        rules(EITHER, 1, 2);
        due("1 and 2 part less evenly", x.ask(), 3);
        x.witness(0);
        says(0, SAYS, 3, 0);
        due("3 parts nothing", x.ask(), 4);
        tell("l2011;l2022;l1044;");
        due("5 alone parts", x.ask(), 5);
        rules(SAYS, 5, 0);
        due("one world: the least", x.ask(), 0);
        says(0, SAYS, 0, 0);
        due("none left", x.ask(), -4);
    }

    private void plain() {
        begin("promise 21, plain");
        due("nobody", x.plain(), -4);
        tell("l2001;l2023;w00;w00;w00;w00;s01044;s11055;s21044;s21055;");
        due("witness 2 alone", x.plain(), 4);
        x.unsays();
        due("0 and 1, or 1 and 2", x.plain(), 3);
        x.unsays();
        x.unsays();
        due("too little", x.plain(), -4);
        says(3, SAYS, 0, 0);
        due("none is as plain as one", x.plain(), 8);
        rules(SAYS, 4, 0);
        rules(SAYS, 5, 0);
        due("by laws alone", x.plain(), 0);
        begin("promise 21, plain without witnesses");
        rules(EXPERT, 0, 0);
        due("no world may be", x.plain(), 0);
    }

    private void order() {
        begin("promise 22, order");
        due("no witnesses", x.order(0), -3);
        due("no witnesses, what 2", x.order(2), -1);
        tell("l2001;l2023;w00;w00;w00;w00;");
        due("not plain", x.order(0), -4);
        due("not plain", x.order(1), -4);
        tell("s11044;s21055;s31044;s31055;");
        due("one must come", x.order(0), 1);
        due("3 first", x.order(1), 3012);
        x.unsays();
        x.unsays();
        due("two must come", x.order(0), 2);
        due("1 and 2 first", x.order(1), 1203);
        says(0, DENIES, 5, 0);
        due("0 and 1 first", x.order(1), 123);
        due("order(2)", x.order(2), -1);
        due("order(-1)", x.order(-1), -1);
        rules(SAYS, 4, 0);
        due("4 stands by law: one must come", x.order(0), 1);
        rules(SAYS, 5, 0);
        due("nobody must come", x.order(0), 0);
        due("the least digits", x.order(1), 123);
    }

    private void without() {
        begin("promise 23, without");
        tell("w00;w00;w00;s01000;s11000;s11011;s00022;");
        // Left: 0 and 1, not 2: 8 worlds.
        due("without 0: 2 may be", x.without(0), 8);
        due("without 1: 1 need not be", x.without(1), 8);
        due("who said nothing", x.without(2), 0);
        due("without(3)", x.without(3), -1);
        due("without(-1)", x.without(-1), -1);
        says(2, SAYS, 0, 0);
        due("none left but for 2", x.without(2), 8);
        due("count(2)", x.count(2), 5);
    }

    private void lie() {
        begin("promise 24, lie");
        tell("w00;w02;w03;t01;");
        due("who knows nothing", x.lie(0, 0), 0);
        due("no best", x.lie(0, 1), -4);
        due("none left", x.lie(0, 2), -4);
        // Of fact 1, which is not so: says (b free) 6, both, either 1 each, expert 6; not if, alike; a poet is about 0, too.
        due("lies of fact 1", x.lie(1, 0), 14);
        due("the expert's takes nothing", x.lie(1, 1), 610);
        due("worlds left", x.lie(1, 2), 64);
        // Of 0 and 1: says 6, denies 6, both 3, either 1, if 1, alike 2, experts 12; poets are right of 0.
        due("lies of facts 0 and 1", x.lie(2, 0), 31);
        due("the best", x.lie(2, 1), 600);
        x.truth(0);
        // Says 12, both 4, either 4, experts 12, poets 4.
        due("lies in another truth", x.lie(2, 0), 36);
        due("a poet without a figure is about 0, which 1 does not know", x.lie(1, 0), 14);
        says(2, BOTH, 0, 1);
        due("what is said once more takes nothing", x.lie(2, 1), 201);
        due("worlds left", x.lie(2, 2), 48);
        x.unsays();
        says(0, SAYS, 1, 0);
        due("what takes no more is told first", x.lie(1, 1), 10);
        due("worlds left", x.lie(1, 2), 32);
        due("lie(3, 0)", x.lie(3, 0), -1);
        due("lie(-1, 0)", x.lie(-1, 0), -1);
        due("lie(0, 3)", x.lie(0, 3), -1);
        due("lie(0, -1)", x.lie(0, -1), -1);
        rules(EXPERT, 0, 0);
        due("none left: the first lie", x.lie(2, 1), 0);
        due("none left", x.lie(2, 2), 0);
    }

    private void twoLies() {
        begin("promise 25, twoLies");
        tell("w00;w02;w04;s00055;");
        due("two experts", x.twoLies(1, 2), 32);
        due("one has no lie", x.twoLies(0, 1), -4);
        due("the other has none", x.twoLies(1, 0), -4);
        due("one twice", x.twoLies(1, 1), -1);
        due("twoLies(3, 0)", x.twoLies(3, 0), -1);
        due("twoLies(0, -1)", x.twoLies(0, -1), -1);
        rules(EXPERT, 0, 0);
        due("none left", x.twoLies(1, 2), 0);
    }

    private void tells() {
        begin("promise 26, tells");
        x.keep(1, 1, BOTH, 0);
        due("a quarter", x.tells(1, 0, 1), 16);
        due("both of one", x.tells(1, 0, 0), 32);
        tell("w00;s00022;");
        due("of those left", x.tells(1, 0, 1), 8);
        due("nothing that is not left", x.tells(1, 0, 2), 0);
        due("nothing is said by it", x.count(2), 1);
        x.keep(1, 1, POET, 2);
        due("a poet", x.tells(1, 0, 0), 16);
        due("tells(8, 0, 0)", x.tells(8, 0, 0), -1);
        due("tells(1, 6, 0)", x.tells(1, 6, 0), -1);
        due("tells(2, 0, -1)", x.tells(2, 0, -1), -1);
        due("nothing held", x.tells(2, 0, 0), -11);
        x.row(2, 2, 1);
        due("a row", x.tells(2, 0, 0), -12);
    }

    private void verdict() {
        begin("promise 27, verdict");
        due("the truth has no fact", x.verdict(), 0);
        tell("w00;t63;");
        due("nobody said anything", x.verdict(), 63);
        says(0, EXPERT, 0, 5);
        due("an expert is about a alone", x.verdict(), 62);
        says(0, IF, 1, 2);
        due("about 1 and 2", x.verdict(), 56);
        x.keep(1, 1, POET, 9);
        x.says(0, 1, 0, 1);
        due("a poet about 3", x.verdict(), 48);
        x.truth(1 + 8 + 16);
        due("what is so", x.verdict(), 16);
    }

    private void certain() {
        begin("promise 28, certain");
        tell("w01;w02;w00;l4001;t03;");
        due("0 and so 1", x.certain(0), 3);
        due("1 alone", x.certain(1), 2);
        due("nothing", x.certain(2), 0);
        x.truth(0);
        due("not 0", x.certain(0), 1);
        due("not 1 and so not 0", x.certain(1), 3);
        due("certain(3)", x.certain(3), -1);
        due("certain(-1)", x.certain(-1), -1);
        says(2, DENIES, 0, 0);
        due("it can't be as 0 sees it", x.certain(0), 63);
        due("what all left have, though it is not so", x.certain(2), 3);
    }

    private void knowsOf() {
        begin("promise 29, knowsOf, world 0");
        tell("l1022;l1033;l1044;l1055;w00;w01;");
        due("in world 0, too, 1 is not certain of 1", x.knowsOf(0, 1), 61);
        says(0, BOTH, 0, 1);
        says(0, SAYS, 1, 0);
        says(0, SAYS, 0, 0);
        due("world 0 alone is left", x.knowsOf(0, 1), 63);
        begin("promise 29, knowsOf");
        tell("w01;w02;w00;l4001;t03;");
        due("that 1 is certain of 1", x.knowsOf(0, 1), 2);
        due("that 0 is certain of 0", x.knowsOf(1, 0), 1);
        due("of oneself", x.knowsOf(0, 0), 3);
        due("who knows nothing knows that he is certain of 0", x.knowsOf(2, 0), 1);
        due("of who knows nothing", x.knowsOf(0, 2), 0);
        due("knowsOf(3, 0)", x.knowsOf(3, 0), -1);
        due("knowsOf(0, 3)", x.knowsOf(0, 3), -1);
        due("knowsOf(-1, 0)", x.knowsOf(-1, 0), -1);
        x.truth(0);
        says(2, DENIES, 0, 0);
        due("no such world left", x.knowsOf(0, 2), 63);
    }

    private void allKnow() {
        begin("promise 30, allKnow");
        due("no witnesses", x.allKnow(0), -3);
        due("no witnesses, depth 6", x.allKnow(6), -1);
        tell("w01;w02;l4001;t03;");
        due("all are certain of 1", x.allKnow(0), 2);
        due("1 takes it that 0 may not be, and then 1 is not known", x.allKnow(1), 0);
        due("allKnow(-1)", x.allKnow(-1), -1);
        due("allKnow(6)", x.allKnow(6), -1);
        begin("promise 30, allKnow, a chain");
        // 0 makes 1, 1 makes 2, and so on; the witnesses see 0, 2 and 4.
        tell("l4001;l4012;l4023;l4034;l4045;w01;w04;w16;t63;");
        due("depth 0", x.allKnow(0), 32 + 16);
        due("depth 1", x.allKnow(1), 0);
        begin("promise 30, allKnow, a chain of two who see");
        tell("l4001;l4012;l4023;l4034;l4045;w21;w42;t63;");
        due("depth 0", x.allKnow(0), 62);
        due("depth 1", x.allKnow(1), 60);
        due("depth 2", x.allKnow(2), 56);
        due("depth 3", x.allKnow(3), 48);
        due("depth 4", x.allKnow(4), 32);
        due("depth 5", x.allKnow(5), 0);
        begin("promise 30, allKnow, a truth that is not left");
        tell("l0000;w00;");
        due("certain of what is not so", x.certain(0), 1);
        due("it is not as in the truth", x.allKnow(0), 0);
        says(0, DENIES, 0, 0);
        says(0, SAYS, 0, 0);
        due("none left", x.allKnow(5), 63);
    }

    private void pencils() {
        begin("promise 31, pencils");
        due("twelve of twelve by halves", x.pencils(5, 12, 0), 1);
        due("twelve of twelve by halves", x.pencils(5, 12, 1), 4096);
        due("none or more", x.pencils(3, 0, 0), 1);
        due("none or more", x.pencils(3, 0, 1), 1);
        due("six or more", x.pencils(5, 6, 0), 1255);
        due("six or more", x.pencils(5, 6, 1), 2048);
        due("a fifth", x.pencils(2, 12, 0), 1);
        due("a fifth", x.pencils(2, 12, 1), 244140625);
        due("nine tenths", x.pencils(9, 12, 0), 282429536481L);
        due("nine tenths", x.pencils(9, 12, 1), 1000000000000L);
        due("a tenth, one or more", x.pencils(1, 1, 0), 1000000000000L - 282429536481L);
        due("t 0", x.pencils(0, 0, 0), OF_LONGS + 1);
        due("t 10", x.pencils(10, 0, 0), OF_LONGS + 1);
        due("n -1", x.pencils(5, -1, 0), OF_LONGS + 1);
        due("n 13", x.pencils(5, 13, 0), OF_LONGS + 1);
        due("part 2", x.pencils(5, 0, 2), OF_LONGS + 1);
        due("part -1", x.pencils(5, 0, -1), OF_LONGS + 1);
    }

    private void fits() {
        begin("promise 32, fits");
        tell("w00;s00000;s00011;");
        fill(1, 0, 1);
        due("0 so", x.fits(1), 0xAAAAAAAAAAAAAAAAL);
        fill(1, 2, 0, 1);
        due("1 but not 0", x.fits(1), 0x4444444444444444L);
        fill(1, 0, -128, 0);
        due("the least byte is skipped", x.fits(1), 0x3333333333333333L);
        fill(1, 1, -32768, 0);
        due("the least short is skipped", x.fits(1), 0x3333333333333333L);
        fill(1, 2, LEAST, 0);
        due("the least int is skipped", x.fits(1), 0x3333333333333333L);
        fill(1, 1, -128, 0);
        due("a byte's least among shorts", x.fits(1), OF_LONGS + 13);
        fill(1, 0);
        due("an empty row", x.fits(1), -1L);
        fill(1, 0, 0, 0, 0);
        due("more numbers than said", x.fits(1), OF_LONGS + 13);
        fill(1, 0, 0, 0, -128);
        due("more numbers, skipped", x.fits(1), OF_LONGS + 13);
        fill(1, 0, 0, 2);
        due("another number", x.fits(1), OF_LONGS + 13);
        fill(1, 0, -1);
        due("another number", x.fits(1), OF_LONGS + 13);
        rules(SAYS, 5, 0);
        fill(1, 0, 1);
        due("of what may be", x.fits(1), 0xAAAAAAAA00000000L);
        due("fits(8)", x.fits(8), OF_LONGS + 1);
        due("fits(-1)", x.fits(-1), OF_LONGS + 1);
        due("nothing held", x.fits(2), OF_LONGS + 11);
        x.keep(2, 1, 0, 0);
        due("no row", x.fits(2), OF_LONGS + 12);
    }

    private void judge() {
        begin("promise 33, judge");
        tell("w00;l0055;s00000;s03001;s00022;");
        fill(1, 0, 32, 16, 8, 4);
        due("all so", x.judge(1), -4);
        fill(1, 1, 32, 16);
        due("fewer", x.judge(1), -4);
        fill(1, 2);
        due("an empty row", x.judge(1), -4);
        fill(1, 0, 64, 16, 8, 4);
        due("the first", x.judge(1), 0);
        fill(1, 2, 32, 16, 7, 5);
        due("the third", x.judge(1), 2);
        fill(1, 2, 32, 16, 8, 4, 4);
        due("one number more", x.judge(1), 4);
        fill(1, 0, -128, -128, 8, -128);
        due("skipped bytes", x.judge(1), -4);
        fill(1, 1, 32, -32768, 9);
        due("skipped shorts", x.judge(1), 2);
        fill(1, 2, LEAST, LEAST, LEAST, LEAST, LEAST, 4);
        due("one number more behind a skipped one", x.judge(1), 5);
        fill(1, 1, -128);
        due("a byte's least among shorts", x.judge(1), 0);
        due("judge(8)", x.judge(8), -1);
        due("judge(-1)", x.judge(-1), -1);
        due("nothing held", x.judge(2), -11);
        x.keep(2, 1, 0, 0);
        due("no row", x.judge(2), -12);
    }

    private void seeds() {
        begin("promise 34, seeds");
        due("nobody slips", x.seeds(20, 7, 0), 0);
        due("all worlds are left", x.seeds(3, 7, 1), 192);
        tell("w00;t16;s00000;");
        // From 0 on: says, figure 8, of 4; both, figure 7, of 1 and 1.
        due("one trial", x.seeds(1, 0, 0), 1);
        due("one trial", x.seeds(1, 0, 1), 32);
        due("two trials", x.seeds(2, 0, 0), 1);
        due("two trials", x.seeds(2, 0, 1), 64);
        x.witness(0);
        due("one trial of two", x.seeds(1, 0, 1), 16);
        // From 1 on: expert, figure 8, of 3; either, figure 7, of 0 and 3.
        due("one trial of two", x.seeds(1, 1, 0), 0);
        due("one trial of two", x.seeds(1, 1, 1), 16);
        // From -5 on: says, figure 1, of 5; if, figure 9, 0 then 0.
        due("one trial of two", x.seeds(1, -5, 0), 1);
        due("one trial of two", x.seeds(1, -5, 1), 0);
        rules(SAYS, 4, 0);
        due("of what may be", x.seeds(1, 1, 1), 8);
        due("nothing changes", x.count(2), 1);
        due("n 0", x.seeds(0, 0, 0), -1);
        due("n 21", x.seeds(21, 0, 0), -1);
        due("what 2", x.seeds(1, 0, 2), -1);
        due("what -1", x.seeds(1, 0, -1), -1);
    }

    private void image() {
        begin("promise 35, image");
        due("nothing said", x.image(), 0);
        tell("w05;s00000;s00000;");
        due("image()", x.image(), 2);
        x.unsays();
        x.image();
        x.unsays();
        due("the last image counts", x.restore(), 1);
    }

    private void restore() {
        begin("promise 36, restore");
        due("none", x.restore(), -3);
        tell("w05;l2012;t09;s01022;");
        x.image();
        x.keep(3, 1, POET, 4);
        x.row(4, 0, 2);
        tell("w07;l3034;t63;s10000;");
        x.unsays();
        x.unsays();
        due("restore()", x.restore(), 1);
        due("laws", x.count(0), 1);
        due("witnesses", x.count(1), 1);
        due("the truth", x.count(3), 9);
        due("said(0, 2)", x.said(0, 2), 2);
        due("knows(0)", x.knows(0), 5);
        due("knows(1)", x.knows(1), -1);
        due("shelves stay", x.cost(3), 13);
        due("rows stay", x.element(4, 1), 0);
        x.unsays();
        x.witness(1);
        due("again", x.restore(), 1);
        due("witnesses again", x.count(1), 1);
    }

    private void count() {
        begin("promise 37, count");
        tell("w00;w01;w02;l0000;t02;s00011;s07922;s06311;");
        due("laws", x.count(0), 1);
        due("witnesses", x.count(1), 3);
        due("said", x.count(2), 3);
        due("the truth", x.count(3), 2);
        due("all size", x.count(4), 3 + 15 + 7);
        due("it may not be", x.count(5), 0);
        due("nor is it left", x.count(6), 0);
        x.truth(3);
        due("it may be", x.count(5), 1);
        due("it is not left", x.count(6), 0);
        x.truth(1);
        due("it may be", x.count(5), 1);
        due("it is left", x.count(6), 1);
        due("count(7)", x.count(7), -1);
        due("count(-1)", x.count(-1), -1);
        due("count(LEAST)", x.count(LEAST), -1);
    }

    private void keep() {
        begin("promise 38, keep");
        due("keep(0, 1, 7, 9)", x.keep(0, 1, 7, 9), 0);
        due("it is there", x.cost(0), 18);
        due("kind 8", x.keep(0, 1, 8, 0), -1);
        due("kind -1", x.keep(0, 1, -1, 0), -1);
        due("figure 10", x.keep(0, 1, 0, 10), -1);
        due("figure -1", x.keep(0, 1, 0, -1), -1);
        due("what 2", x.keep(0, 2, 0, 0), -1);
        due("what -1", x.keep(0, -1, 0, 0), -1);
        due("shelf 8", x.keep(8, 1, 0, 0), -1);
        due("shelf -1", x.keep(-1, 0, 0, 0), -1);
        due("nothing changed", x.cost(0), 18);
        due("the others do not matter", x.keep(0, 0, LEAST, GREATEST), 0);
        due("nothing is there", x.cost(0), -11);
        x.row(0, 1, 3);
        due("in place of a row", x.keep(0, 1, 0, 0), 0);
        due("no row", x.put(0, 0, 0), -12);
    }

    private void row() {
        begin("promise 39, row");
        due("row(0, 2, 100)", x.row(0, 2, 100), 0);
        due("its last place", x.put(0, 99, LEAST), 0);
        due("n 101", x.row(0, 0, 101), -1);
        due("n -1", x.row(0, 0, -1), -14);
        due("n LEAST", x.row(0, 0, LEAST), -14);
        due("sort 3", x.row(0, 3, 0), -1);
        due("sort -1, n -1", x.row(0, -1, -1), -1);
        due("shelf 8, n -1", x.row(8, 0, -1), -1);
        due("shelf -1", x.row(-1, 0, 0), -1);
        due("nothing changed", x.element(0, 99), LEAST);
        due("row(0, 2, 100)", x.row(0, 2, 100), 0);
        due("elements are 0 at first", x.element(0, 99), 0);
        fill(0, 0, 1, 1);
        x.row(0, 0, 2);
        due("the first is 0 again", x.element(0, 0), 0);
        due("row(0, 1, 0)", x.row(0, 1, 0), 0);
        due("no place", x.put(0, 0, 0), -13);
    }

    private void put() {
        begin("promise 40, put");
        fill(0, 0, 200, -129, 127);
        due("the lowest bits of a byte", x.element(0, 0), -56);
        due("the lowest bits of a byte", x.element(0, 1), 127);
        due("a byte", x.element(0, 2), 127);
        fill(1, 1, 70000, -32769, 32768);
        due("the lowest bits of a short", x.element(1, 0), 4464);
        due("the lowest bits of a short", x.element(1, 1), 32767);
        due("the lowest bits of a short", x.element(1, 2), -32768);
        fill(2, 2, LEAST);
        due("an int", x.element(2, 0), LEAST);
        due("put(2, 1, 0)", x.put(2, 1, 0), -13);
        due("put(2, -1, 0)", x.put(2, -1, 0), -13);
        due("put(2, GREATEST, 0)", x.put(2, GREATEST, 0), -13);
        due("shelf 8", x.put(8, 0, 0), -1);
        due("shelf -1", x.put(-1, 0, 0), -1);
        due("nothing held", x.put(3, 0, 0), -11);
        x.keep(3, 1, 0, 0);
        due("a saying", x.put(3, 0, 0), -12);
    }

    private void element() {
        begin("promise 41, element");
        fill(0, 2, 5, -6);
        due("element(0, 0)", x.element(0, 0), 5);
        due("element(0, 1)", x.element(0, 1), -6);
        x.keep(1, 1, 0, 0);
        elementThrows(8, 0, 1);
        elementThrows(-1, 0, 1);
        elementThrows(LEAST, GREATEST, 1);
        elementThrows(0, 2, 2);
        elementThrows(0, -1, 2);
        elementThrows(0, GREATEST, 2);
        elementThrows(1, 0, 2);
        elementThrows(2, 0, 2);
    }

    private void elementThrows(int d, int i, int want) {
        due("element(" + d + ", " + i + ") throws (1 an argument, 2 a state)", thrownBy(x, d, i), want);
    }

    private void copy() {
        begin("promise 42, copy");
        fill(0, 1, 1, 2, 3, 4);
        fill(1, 1, 9, 9, 9);
        due("copy(0, 1, 1, 0, 2)", x.copy(0, 1, 1, 0, 2), 2);
        due("element(1, 0)", x.element(1, 0), 2);
        due("element(1, 1)", x.element(1, 1), 3);
        due("element(1, 2)", x.element(1, 2), 9);
        due("onto itself", x.copy(0, 0, 0, 1, 3), 3);
        due("as it was ahead", x.element(0, 1), 1);
        due("as it was ahead", x.element(0, 2), 2);
        due("as it was ahead", x.element(0, 3), 3);
        due("nothing, at the ends", x.copy(0, 4, 1, 3, 0), 0);
        due("nothing, past the end", x.copy(0, 5, 1, 0, 0), -13);
        due("past the one's end", x.copy(0, 2, 1, 0, 3), -13);
        due("past the other's end", x.copy(0, 0, 1, 2, 2), -13);
        due("i -1", x.copy(0, -1, 1, 0, 1), -13);
        due("j -1", x.copy(0, 0, 1, -1, 1), -13);
        due("n -1", x.copy(0, 0, 1, 0, -1), -13);
        due("far off", x.copy(0, GREATEST, 1, GREATEST, GREATEST), -13);
        due("far below", x.copy(0, LEAST, 1, LEAST, LEAST), -13);
        due("shelf 8", x.copy(8, 0, 1, 0, 0), -1);
        due("shelf -1", x.copy(2, 0, -1, 0, 0), -1);
        due("nothing held", x.copy(2, 0, 1, 0, 0), -11);
        due("nothing held", x.copy(0, 0, 2, 0, 0), -11);
        x.row(3, 2, 4);
        due("another sort", x.copy(0, 0, 3, 0, 1), -12);
        x.keep(3, 1, 0, 0);
        due("a saying", x.copy(3, 0, 0, 0, 9), -12);
        x.keep(4, 1, 0, 0);
        x.row(5, 0, 1);
        due("a saying to bytes", x.copy(4, 0, 5, 0, 0), -12);
        due("bytes to a saying", x.copy(5, 0, 4, 0, 0), -12);
        due("a saying", x.copy(0, 0, 3, 0, 1), -12);
        due("two sayings", x.copy(3, 0, 3, 0, 1), -12);
        due("a saying and nothing", x.copy(3, 0, 2, 0, 1), -11);
    }

    private void cost() {
        begin("promise 43, cost");
        int[] costs = {2, 3, 4, 9, 8, 4 + 7, 30, 9 + 7};
        for (int kind = SAYS; kind <= POET; kind++) {
            x.keep(1, 1, kind, 7);
            due("cost of kind " + kind, x.cost(1), costs[kind]);
        }
        due("cost(8)", x.cost(8), -1);
        due("cost(-1)", x.cost(-1), -1);
        due("nothing held", x.cost(2), -11);
        x.row(2, 0, 0);
        due("a row", x.cost(2), -12);
    }

    private void toss() {
        begin("promise 44, toss");
        int[] failures = {7, 7, 107, 107, 107, 107, -15, 216};
        for (int kind = SAYS; kind <= POET; kind++) {
            x.keep(1, 1, kind, 7);
            due("toss of kind " + kind, x.toss(1), failures[kind]);
            x.keep(1, 1, kind, 0);
            due("toss of kind " + kind + " with figure 0", x.toss(1), -15);
        }
        x.keep(1, 1, POET, 1);
        due("a poet with figure 1", x.toss(1), 210);
        due("toss(8)", x.toss(8), -1);
        due("toss(-1)", x.toss(-1), -1);
        due("nothing held", x.toss(2), -11);
        x.row(2, 0, 0);
        due("a row", x.toss(2), -12);
    }
}
