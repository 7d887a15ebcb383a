/** The edges that part III of the terms names: of shelves, rows, what is copied, costs, failures, the image. */
final class ShelfEdges extends CourtTests {
    ShelfEdges(Checks checks) {
        super(checks);
    }

    void runAll() {
        shelvesAre0To7();
        shelvesHoldNothingAtFirst();
        aShelfHoldsOneThing();
        sortsAre0To2();
        rowsHave0To100Elements();
        elementsAre0AtFirst();
        bytesKeepTheirLowestBits();
        shortsKeepTheirLowestBits();
        intsKeepAll();
        keepNothing();
        placesThatAreNotThere();
        elementThrows();
        copies();
        costsWithTheLeastAndTheGreatestFigure();
        failuresThatAreNone();
        failuresWithTheLeastAndTheGreatestFigure();
        image();
    }

    private void copies() {
        copyOfNothing();
        copyToTheEnds();
        copyPastTheEnds();
        copyOntoItself();
        copyOfOneSort();
    }

    private void image() {
        imageOfNothing();
        imageOfAll();
        imageTwice();
        restoredTwice();
        shelvesAreNotInTheImage();
        shelvesKeepWhatIsTaken();
    }

    private void shelvesAre0To7() {
        begin("III, SHELVES 0 .. 7");
        due("shelf 0", x.row(0, 0, 1), 0);
        due("shelf 7", x.keep(7, 1, 0, 0), 0);
        noShelf(8);
        for (int d : OUTSIDE) {
            noShelf(d);
        }
    }

    private void noShelf(int d) {
        due("trial(" + d + ")", x.trial(d), -1);
        due("isTrue(" + d + ", ..)", x.isTrue(d, 0, 0, 0), -1);
        due("rules(" + d + ", ..)", x.rules(d, 0, 0), -1);
        due("says(.., " + d + ", ..)", x.says(0, d, 0, 0), -1);
        due("tells(" + d + ", ..)", x.tells(d, 0, 0), -1);
        due("fits(" + d + ")", x.fits(d), OF_LONGS + 1);
        due("judge(" + d + ")", x.judge(d), -1);
        due("keep(" + d + ", 0, ..)", x.keep(d, 0, 0, 0), -1);
        due("keep(" + d + ", 1, ..)", x.keep(d, 1, 0, 0), -1);
        due("row(" + d + ", ..)", x.row(d, 0, 0), -1);
        due("put(" + d + ", ..)", x.put(d, 0, 0), -1);
        due("element(" + d + ", 0) throws", thrownBy(x, d, 0), 1);
        due("copy(" + d + ", ..)", x.copy(d, 0, 0, 0, 0), -1);
        due("copy(.., " + d + ", ..)", x.copy(0, 0, d, 0, 0), -1);
        due("cost(" + d + ")", x.cost(d), -1);
        due("toss(" + d + ")", x.toss(d), -1);
    }

    private void shelvesHoldNothingAtFirst() {
        begin("III, SHELVES hold nothing (at first)");
        x.witness(0);
        for (int d = 0; d < 8; d++) {
            nothingOn(d);
        }
    }

    private void nothingOn(int d) {
        due("trial(" + d + ")", x.trial(d), -11);
        due("isTrue(" + d + ", ..)", x.isTrue(d, 0, 0, 0), -11);
        due("rules(" + d + ", ..)", x.rules(d, 0, 0), -11);
        due("says(.., " + d + ", ..)", x.says(0, d, 0, 0), -11);
        due("tells(" + d + ", ..)", x.tells(d, 0, 0), -11);
        due("fits(" + d + ")", x.fits(d), OF_LONGS + 11);
        due("judge(" + d + ")", x.judge(d), -11);
        due("put(" + d + ", ..)", x.put(d, 0, 0), -11);
        due("element(" + d + ", 0) throws", thrownBy(x, d, 0), 2);
        due("copy(" + d + ", ..)", x.copy(d, 0, d, 0, 0), -11);
        due("cost(" + d + ")", x.cost(d), -11);
        due("toss(" + d + ")", x.toss(d), -11);
    }

    private void aShelfHoldsOneThing() {
        begin("III, SHELVES each hold nothing, a SAYING's KIND, a ROW");
        x.witness(0);
        x.row(1, 2, 3);
        x.keep(1, 1, POET, 9);
        due("a saying in place of a row", x.put(1, 0, 0), -12);
        due("the saying", x.cost(1), 18);
        x.row(1, 0, 3);
        due("a row in place of a saying", x.cost(1), -12);
        due("the row", x.put(1, 2, 0), 0);
        x.keep(1, 0, 0, 0);
        nothingOn(1);
        x.row(2, 0, 1);
        due("beside other shelves", x.cost(1), -11);
    }

    private void sortsAre0To2() {
        begin("III, a SORT (0 bytes, 1 shorts, 2 ints)");
        for (int sort = 0; sort <= 2; sort++) {
            due("sort " + sort, x.row(sort, sort, 1), 0);
        }
        due("sort 3", x.row(3, 3, 1), -1);
        for (int sort : OUTSIDE) {
            due("sort " + sort, x.row(3, sort, 1), -1);
        }
        due("no row", x.put(3, 0, 0), -11);
    }

    private void rowsHave0To100Elements() {
        begin("III, a ROW has 0 .. 100 elements");
        due("0", x.row(1, 0, 0), 0);
        due("no place 0", x.put(1, 0, 0), -13);
        due("1", x.row(1, 0, 1), 0);
        due("place 0", x.put(1, 0, 5), 0);
        due("no place 1", x.put(1, 1, 5), -13);
        due("100", x.row(1, 2, 100), 0);
        due("place 99", x.put(1, 99, 5), 0);
        due("no place 100", x.put(1, 100, 5), -13);
        due("101", x.row(1, 0, 101), -1);
        due("GREATEST", x.row(1, 0, GREATEST), -1);
        due("-1", x.row(1, 0, -1), -14);
        due("LEAST", x.row(1, 0, LEAST), -14);
        due("the row stays", x.element(1, 99), 5);
    }

    private void elementsAre0AtFirst() {
        begin("III, elements are 0 at first");
        for (int sort = 0; sort <= 2; sort++) {
            fill(1, sort, 7, 7, 7);
            x.row(1, sort, 100);
            due("the first", x.element(1, 0), 0);
            due("the third", x.element(1, 2), 0);
            due("the last", x.element(1, 99), 0);
            x.put(1, 99, 7);
        }
    }

    private void bytesKeepTheirLowestBits() {
        begin("III, bytes keep their lowest bits");
        keeps(0, 127, 127);
        keeps(0, 128, -128);
        keeps(0, -128, -128);
        keeps(0, -129, 127);
        keeps(0, 255, -1);
        keeps(0, 256, 0);
        keeps(0, GREATEST, -1);
        keeps(0, LEAST, 0);
    }

    private void shortsKeepTheirLowestBits() {
        begin("III, shorts keep their lowest bits");
        keeps(1, 32767, 32767);
        keeps(1, 32768, -32768);
        keeps(1, -32768, -32768);
        keeps(1, -32769, 32767);
        keeps(1, 65535, -1);
        keeps(1, 65536, 0);
        keeps(1, GREATEST, -1);
        keeps(1, LEAST, 0);
    }

    private void intsKeepAll() {
        begin("III, ints keep all bits");
        keeps(2, GREATEST, GREATEST);
        keeps(2, LEAST, LEAST);
        keeps(2, -1, -1);
        keeps(2, 65536, 65536);
    }

    private void keeps(int sort, int v, long want) {
        x.row(1, sort, 1);
        due("put(1, 0, " + v + ")", x.put(1, 0, v), 0);
        due("element", x.element(1, 0), want);
    }

    private void keepNothing() {
        begin("III, keep: what = 0 nothing (the others do not matter)");
        x.keep(1, 1, 0, 0);
        due("kind -1, figure 10", x.keep(1, 0, -1, 10), 0);
        due("nothing", x.cost(1), -11);
        due("nothing once more", x.keep(1, 0, GREATEST, LEAST), 0);
        due("what 2", x.keep(1, 2, 0, 0), -1);
        for (int what : OUTSIDE) {
            due("what " + what, x.keep(1, what, 0, 0), -1);
        }
        due("still nothing", x.cost(1), -11);
    }

    private void placesThatAreNotThere() {
        begin("III, -13 a place that isn't there");
        fill(1, 1, 5, 6, 7);
        due("place 2", x.put(1, 2, 8), 0);
        due("place 3", x.put(1, 3, 8), -13);
        for (int i : OUTSIDE) {
            due("place " + i, x.put(1, i, 8), -13);
        }
        x.row(1, 1, 2);
        due("place 2 of a shorter row", x.put(1, 2, 8), -13);
    }

    private void elementThrows() {
        begin("III, element throws");
        fill(1, 1, 5, 6, 7);
        x.keep(2, 1, 0, 0);
        due("place 0", x.element(1, 0), 5);
        due("place 2", x.element(1, 2), 7);
        due("place 3", thrownBy(x, 1, 3), 2);
        for (int i : OUTSIDE) {
            due("place " + i, thrownBy(x, 1, i), 2);
            due("shelf " + i, thrownBy(x, i, i), 1);
        }
        due("a saying", thrownBy(x, 2, 0), 2);
        due("nothing held", thrownBy(x, 3, 0), 2);
        x.row(3, 0, 0);
        due("an empty row", thrownBy(x, 3, 0), 2);
    }

    private void copyOfNothing() {
        begin("III, copy of nothing");
        x.row(1, 0, 0);
        x.row(2, 0, 3);
        due("from an empty row", x.copy(1, 0, 2, 0, 0), 0);
        due("to an empty row", x.copy(2, 0, 1, 0, 0), 0);
        due("at the end", x.copy(2, 3, 1, 0, 0), 0);
        due("to the end", x.copy(1, 0, 2, 3, 0), 0);
        due("behind the end", x.copy(2, 4, 1, 0, 0), -13);
        due("to behind the end", x.copy(1, 0, 2, 4, 0), -13);
        due("one from an empty row", x.copy(1, 0, 2, 0, 1), -13);
        due("one to an empty row", x.copy(2, 0, 1, 0, 1), -13);
    }

    private void copyToTheEnds() {
        begin("III, copy to the ends");
        x.row(1, 2, 100);
        x.row(2, 2, 100);
        x.put(1, 0, LEAST);
        x.put(1, 99, GREATEST);
        due("all hundred", x.copy(1, 0, 2, 0, 100), 100);
        due("the first", x.element(2, 0), LEAST);
        due("the last", x.element(2, 99), GREATEST);
        due("the last to the first", x.copy(1, 99, 2, 0, 1), 1);
        due("the first", x.element(2, 0), GREATEST);
        due("the first to the last", x.copy(1, 0, 2, 99, 1), 1);
        due("the last", x.element(2, 99), LEAST);
        due("what it came from stays", x.element(1, 99), GREATEST);
    }

    private void copyPastTheEnds() {
        begin("III, copy past the ends");
        fill(1, 1, 1, 2, 3);
        fill(2, 1, 4, 5);
        due("one too many for the second", x.copy(1, 0, 2, 0, 3), -13);
        due("one too many of the second", x.copy(2, 0, 1, 0, 3), -13);
        due("from place 1", x.copy(2, 1, 1, 0, 2), -13);
        due("to place 1", x.copy(1, 0, 2, 1, 2), -13);
        due("i -1", x.copy(1, -1, 2, 0, 1), -13);
        due("j -1", x.copy(1, 0, 2, -1, 1), -13);
        due("n -1", x.copy(1, 1, 2, 1, -1), -13);
        for (int outside : OUTSIDE) {
            due("i " + outside, x.copy(1, outside, 2, 0, 1), -13);
            due("j " + outside, x.copy(1, 0, 2, outside, 1), -13);
            due("n " + outside, x.copy(1, 0, 2, 0, outside), -13);
        }
        due("sums that wrap around", x.copy(1, GREATEST, 2, GREATEST, 2), -13);
        due("sums that wrap around", x.copy(1, 2, 2, 2, GREATEST), -13);
        due("nothing comes", x.element(2, 0), 4);
        due("nothing comes", x.element(2, 1), 5);
    }

    private void copyOntoItself() {
        begin("III, copy onto itself");
        fill(1, 0, 1, 2, 3, 4, 5);
        due("up", x.copy(1, 0, 1, 1, 4), 4);
        row("up", 1, 1, 2, 3, 4);
        fill(1, 0, 1, 2, 3, 4, 5);
        due("down", x.copy(1, 1, 1, 0, 4), 4);
        row("down", 2, 3, 4, 5, 5);
        due("all to where it is", x.copy(1, 0, 1, 0, 5), 5);
        row("as it was", 2, 3, 4, 5, 5);
    }

    private void row(String call, int... numbers) {
        for (int i = 0; i < numbers.length; i++) {
            due(call + ", place " + i, x.element(1, i), numbers[i]);
        }
    }

    private void copyOfOneSort() {
        begin("III, copy, no ROWS of one SORT");
        for (int sort = 0; sort <= 2; sort++) {
            x.row(sort, sort, 2);
            x.row(sort + 3, sort, 2);
        }
        for (int d = 0; d <= 2; d++) {
            for (int e = 3; e <= 5; e++) {
                due("sorts " + d + " and " + (e - 3), x.copy(d, 0, e, 0, 2), d + 3 == e ? 2 : -12);
            }
        }
        x.keep(6, 1, 0, 0);
        due("a saying to bytes", x.copy(6, 0, 0, 0, 0), -12);
        due("bytes to a saying", x.copy(0, 0, 6, 0, 0), -12);
        due("a saying to itself", x.copy(6, 0, 6, 0, 0), -12);
        due("nothing to bytes", x.copy(7, 0, 0, 0, 0), -11);
        due("bytes to nothing", x.copy(0, 0, 7, 0, 0), -11);
    }

    private void costsWithTheLeastAndTheGreatestFigure() {
        begin("promise 43, COST with FIGURE 0 and 9");
        int[] least = {2, 3, 4, 9, 8, 4, 30, 9};
        int[] greatest = {2, 3, 4, 9, 8, 13, 30, 18};
        for (int kind = SAYS; kind <= POET; kind++) {
            x.keep(1, 1, kind, 0);
            due("kind " + kind + ", figure 0", x.cost(1), least[kind]);
            x.keep(1, 1, kind, 9);
            due("kind " + kind + ", figure 9", x.cost(1), greatest[kind]);
        }
    }

    private void failuresThatAreNone() {
        begin("promise 44, -15: EXPERTS, and any with FIGURE 0, have none");
        for (int kind = SAYS; kind <= POET; kind++) {
            x.keep(1, 1, kind, 0);
            due("kind " + kind + ", figure 0", x.toss(1), -15);
        }
        for (int figure = 1; figure <= 9; figure++) {
            x.keep(1, 1, EXPERT, figure);
            due("an expert, figure " + figure, x.toss(1), -15);
        }
    }

    private void failuresWithTheLeastAndTheGreatestFigure() {
        begin("promise 44, FAILURES with FIGURE 1 and 9");
        int[] least = {1, 1, 101, 101, 101, 101, -15, 200 + 10};
        int[] greatest = {9, 9, 109, 109, 109, 109, -15, 200 + 18};
        for (int kind = SAYS; kind <= POET; kind++) {
            x.keep(1, 1, kind, 1);
            due("kind " + kind + ", figure 1", x.toss(1), least[kind]);
            x.keep(1, 1, kind, 9);
            due("kind " + kind + ", figure 9", x.toss(1), greatest[kind]);
            due("once more", x.toss(1), greatest[kind]);
        }
    }

    private void imageOfNothing() {
        begin("III, THE IMAGE: none; of nothing");
        due("none", x.restore(), -3);
        due("of nothing", x.image(), 0);
        tell("l0055;w05;s00000;t07;");
        due("nothing again", x.restore(), 0);
        for (int what = 0; what <= 4; what++) {
            due("count(" + what + ")", x.count(what), 0);
        }
        due("none is told", x.law(0, 0), -1);
        due("none is told", x.knows(0), -1);
        due("none is told", x.said(0, 0), -1);
        due("all may be", x.many(0), 64);
    }

    private void imageOfAll() {
        begin("III, THE IMAGE of all that there is");
        tell("l0000;l2011;l3022;l4033;l5044;l7955;w00;w01;w02;w03;w63;t63;");
        tell("s00000;s00011;s00022;s00033;s00044;s00055;s11000;s22011;s33022;s47955;");
        due("ten said", x.image(), 10);
        for (int s = 0; s < 10; s++) {
            x.unsays();
        }
        x.truth(1);
        due("ten said again", x.restore(), 10);
        due("laws", x.count(0), 6);
        due("witnesses", x.count(1), 5);
        due("said", x.count(2), 10);
        due("the truth", x.count(3), 63);
        due("the last law", x.law(5, 1), 9);
        due("the last witness", x.knows(4), 63);
        due("the last said", x.said(9, 0), POET);
        due("its witness", x.said(9, 6), 4);
        due("full of what is said", says(0, SAYS, 0, 0), -2);
        due("full of laws", rules(SAYS, 0, 0), -2);
        due("full of witnesses", x.witness(0), -2);
    }

    private void imageTwice() {
        begin("III, THE IMAGE taken twice");
        x.truth(5);
        x.image();
        x.truth(6);
        x.image();
        x.truth(7);
        due("restore()", x.restore(), 0);
        due("the last image", x.count(3), 6);
    }

    private void restoredTwice() {
        begin("III, THE IMAGE RESTORED twice");
        tell("w05;s01000;");
        x.image();
        x.unsays();
        tell("s05022;s05033;w07;l0000;t03;");
        due("restore()", x.restore(), 1);
        due("as it was then", x.said(0, 0), DENIES);
        tell("s05022;w09;t04;");
        due("restore()", x.restore(), 1);
        due("said", x.count(2), 1);
        due("witnesses", x.count(1), 1);
        due("laws", x.count(0), 0);
        due("the truth", x.count(3), 0);
    }

    private void shelvesAreNotInTheImage() {
        begin("III, THE IMAGE: all that there is, but SHELVES");
        x.keep(1, 1, SAYS, 0);
        fill(2, 1, 5);
        x.image();
        x.keep(1, 1, POET, 9);
        x.put(2, 0, 6);
        x.row(3, 0, 1);
        x.restore();
        due("a saying that came later", x.cost(1), 18);
        due("an element that came later", x.element(2, 0), 6);
        due("a row that came later", x.element(3, 0), 0);
        x.keep(1, 0, 0, 0);
        x.restore();
        due("nothing that came later", x.cost(1), -11);
    }

    private void shelvesKeepWhatIsTaken() {
        begin("III, the ROW of a text, and what is taken from a SHELF, stay there");
        told("w07;t05;", 2);
        due("the text stays", x.element(0, 7), ';');
        due("it can be told again", x.trial(0), 2);
        told("w07;t05", -1007);
        due("a faulty text stays", x.element(0, 6), '5');
        x.keep(1, 1, POET, 9);
        x.rules(1, 0, 0);
        x.says(0, 1, 0, 0);
        x.tells(1, 0, 0);
        x.isTrue(1, 0, 0, 0);
        x.toss(1);
        due("the saying stays", x.cost(1), 18);
        fill(2, 2, 1);
        x.fits(2);
        x.judge(2);
        due("the row stays", x.element(2, 0), 1);
        x.keep(1, 0, 0, 0);
        due("a law stays without its shelf", x.law(0, 0), POET);
        due("what is said stays without its shelf", x.said(0, 1), 9);
    }
}
