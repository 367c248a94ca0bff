/** The sentences of the promises that name a boundary: each has a method of its own, which begins with its words. */
public final class BoundaryTest {
    private static final int BAD = -1, STATE = -2, FULL = -3, NONE = -9, BAD_KIND = -5;
    private static final String LARGEST = "row0000;row0000;row0000;row0000;row0000;row0000;";
    private static final Check CHECK = new Check();

    public static void main(String[] args) {
        told();
        done();
        asked();
        whichCell();
        images();
        CHECK.end();
    }

    private static void told() {
        newObject();
        typeFirstAndLastLetter();
        typeUntilFull();
        clearOfNoneAndAll();
        tellsWhatItDoesNotTellAsAtFirst();
        tellsAndIsEmptyThen();
        tellsHowManyItems();
        tellsAFaultAndStays();
    }

    private static void done() {
        paintsHowManyHadAnother();
        paintsFromALesserNumberOn();
        paintsNone();
        floodsHowMany();
        floodsThatHeight();
        settlesHowMany();
        settlesNone();
        fixesHowMany();
        fixesWhatIsSo();
        undoHowManyMore();
        undoNone();
    }

    private static void asked() {
        cellWhat();
        cellBad();
        squareWhat();
        squareBad();
        kindHowMany();
        kindOfTheKth();
        kindBad();
        jarsHowMany();
        leastHowMany();
        leastHeight();
        leastBad();
    }

    private static void whichCell() {
        seesFromFirstToLast();
        seesUntilFull();
        forgetNoneAndAll();
        whichHowMany();
        whichBad();
        look();
    }

    private static void images() {
        keepHowMany();
        keepBad();
        backHowMany();
        backNone();
        countEach();
        countBad();
    }

    private static void due(String call, int got, int want) {
        CHECK.due(call, got, want);
    }

    // ---- what is told

    private static void newObject() {
        CHECK.sentence("`GroundEdges()`: One CELL of HEIGHT 0.");
        GroundEdges g = new GroundEdges();
        CHECK.map("the map", g, "0");
        CHECK.fixed("fixed", g, "0");
        int[] counts = {1, 1, NONE, 0, 0, 0, 0, 0};
        for (int what = 0; what < 8; what++) {
            due("count(" + what + ")", g.count(what), counts[what]);
        }
        due("no cell 1, 0", g.cell(1, 0, 0), BAD);
        due("no cell 0, 1", g.cell(0, 1, 0), BAD);
        due("no image 0", g.back(0), STATE);
        due("no image 1", g.back(1), STATE);
        g.paints(0, 0, 0, 0, 3);
        due("another object is another map", new GroundEdges().cell(0, 0, 0), 0);
    }

    private static void typeFirstAndLastLetter() {
        CHECK.sentence("A letter (0 .. 255) comes to THE TEXT: how many it has.");
        for (int letter = 0; letter <= 255; letter++) {
            GroundEdges g = new GroundEdges();
            due("type(" + letter + ")", g.type(letter), 1);
            due("type(" + letter + ") again", g.type(letter), 2);
        }
        GroundEdges g = new GroundEdges();
        due("type(-1)", g.type(-1), BAD);
        due("type(256)", g.type(256), BAD);
        due("type(256 + 'r')", g.type(256 + 'r'), BAD);
        due("letters", g.count(6), 0);
    }

    private static void typeUntilFull() {
        CHECK.sentence("BAD; FULL: 120.");
        GroundEdges g = new GroundEdges();
        for (int i = 1; i <= 120; i++) {
            due("type() " + i, g.type(' '), i);
        }
        due("type() 121", g.type(' '), FULL);
        due("type() 122", g.type(' '), FULL);
        due("letters", g.count(6), 120);
        due("a wrong letter", g.type(256), BAD);
        due("clear()", g.clear(), 120);
        due("type() behind clear()", g.type(' '), 1);
        Check.type(g, "row0;" + " ".repeat(114));
        due("type() 121 again", g.type(' '), FULL);
        due("tells()", g.tells(), 1);
        due("type() behind tells()", g.type(' '), 1);
    }

    private static void clearOfNoneAndAll() {
        CHECK.sentence("THE TEXT is empty: how many letters it had.");
        for (int letters = 0; letters <= 120; letters += 40) {
            GroundEdges g = new GroundEdges();
            Check.type(g, "x".repeat(letters));
            due("clear() of " + letters, g.clear(), letters);
            due("letters", g.count(6), 0);
            due("clear() again", g.clear(), 0);
            Check.type(g, "row3;");
            due("nothing is left of it", g.tells(), 1);
            due("the map", g.cell(0, 0, 0), 3);
        }
    }

    private static void tellsWhatItDoesNotTellAsAtFirst() {
        CHECK.sentence("THE TEXT tells THE MAP, FIXED, BEYOND anew (what it does not tell as at first)");
        GroundEdges g = Check.told("row3333;row3333;row3333;row3333;row3333;row3333;fix0 0;fix3 5;beyond3;");
        due("tells()", Check.tell(g, "row0;"), 1);
        due("W", g.count(0), 1);
        due("H", g.count(1), 1);
        due("beyond", g.count(2), NONE);
        due("fixed", g.count(3), 0);
        due("heights", g.count(4), 0);
        due("mask", g.square(0, 0, 1, 0), 0);
        due("tells() of the largest", Check.tell(g, LARGEST), 6);
        due("heights", g.count(4), 0);
        due("fixed", g.count(3), 0);
    }

    private static void tellsAndIsEmptyThen() {
        CHECK.sentence("and is empty then: how many ITEMS.");
        GroundEdges g = new GroundEdges();
        Check.type(g, "row1;fix0 0;");
        due("tells()", g.tells(), 2);
        due("letters", g.count(6), 0);
        due("tells() of nothing", g.tells(), -10);
        due("clear()", g.clear(), 0);
        CHECK.map("told", g, "1");
        CHECK.fixed("told", g, "1");
    }

    private static void tellsHowManyItems() {
        CHECK.sentence("how many ITEMS");
        due("one", Check.tell(new GroundEdges(), "row0;"), 1);
        due("two", Check.tell(new GroundEdges(), "beyond0;row0;"), 2);
        due("each fix of one cell", Check.tell(new GroundEdges(), "row0;" + "fix0 0;".repeat(16)), 17);
        due("as many as can be", Check.tell(new GroundEdges(), "row0;".repeat(6) + "fix0 0;".repeat(12)), 18);
    }

    private static void tellsAFaultAndStays() {
        CHECK.sentence("-10 less FAULT: nothing changes, THE TEXT stays.");
        GroundEdges g = Check.told("row12;fix1 0;beyond3;");
        Check.type(g, "row3;fix0 0;beyond0");
        due("tells()", g.tells(), -10 - 19);
        due("tells() again", g.tells(), -10 - 19);
        due("letters", g.count(6), 19);
        CHECK.map("the map", g, "12");
        CHECK.fixed("fixed", g, "01");
        due("beyond", g.count(2), 3);
        due("undone", g.count(7), 1);
        due("what is missing", g.type(';'), 20);
        due("tells()", g.tells(), 3);
        CHECK.map("the map", g, "3");
        due("the least fault", Check.tell(g, "!"), -10);
        due("the greatest fault", Check.tell(g, " ".repeat(120)), -130);
    }

    // ---- what is done

    private static void paintsHowManyHadAnother() {
        CHECK.sentence("PAINTED: how many CELLS had another HEIGHT.");
        GroundEdges g = Check.told("row012;row123;");
        due("one of one", g.paints(0, 0, 0, 0, 1), 1);
        due("some of all", g.paints(0, 0, 2, 1, 1), 3);
        CHECK.map("painted", g, "111 111");
        due("all of all", g.paints(0, 0, 2, 1, 0), 6);
        due("the last", g.paints(2, 1, 2, 1, 3), 1);
        CHECK.map("painted", g, "000 003");
    }

    private static void paintsFromALesserNumberOn() {
        CHECK.sentence("BAD (x2 less than x, y2 less than y, too); STATE: none had.");
        GroundEdges g = Check.told("row00;row00;");
        due("x2 less than x", g.paints(1, 0, 0, 0, 1), BAD);
        due("y2 less than y", g.paints(0, 1, 0, 0, 1), BAD);
        due("both", g.paints(1, 1, 0, 0, 1), BAD);
        due("x2 less than x, of that height", g.paints(1, 0, 0, 1, 0), BAD);
        due("x", g.paints(-1, 0, 0, 0, 1), BAD);
        due("x", g.paints(2, 0, 2, 0, 1), BAD);
        due("y", g.paints(0, -1, 0, 0, 1), BAD);
        due("y", g.paints(0, 2, 0, 2, 1), BAD);
        due("x2", g.paints(0, 0, 2, 0, 1), BAD);
        due("y2", g.paints(0, 0, 0, 2, 1), BAD);
        due("height", g.paints(0, 0, 0, 0, -1), BAD);
        due("height", g.paints(0, 0, 0, 0, 4), BAD);
        CHECK.map("nothing is painted", g, "00 00");
        due("x2 is x, y2 is y", g.paints(1, 1, 1, 1, 1), 1);
    }

    private static void paintsNone() {
        CHECK.sentence("STATE: none had.");
        GroundEdges g = Check.told("row12;");
        due("none had", g.paints(0, 0, 0, 0, 1), STATE);
        due("one had", g.paints(0, 0, 1, 0, 1), 1);
        due("none has now", g.paints(0, 0, 1, 0, 1), STATE);
        due("undone", g.count(7), 2);
    }

    private static void floodsHowMany() {
        CHECK.sentence("FLOODED from a CELL: how many CELLS.");
        GroundEdges g = Check.told("row0100;row1100;");
        due("the first alone", g.floods(0, 0, 3), 1);
        due("the last and its like", g.floods(3, 1, 2), 4);
        due("to the height of others", g.floods(1, 0, 2), 3);
        CHECK.map("flooded", g, "3222 2222");
        due("those, too", g.floods(0, 1, 3), 7);
        due("all", g.floods(0, 0, 0), 8);
    }

    private static void floodsThatHeight() {
        CHECK.sentence("BAD; STATE: it has that HEIGHT.");
        GroundEdges g = Check.told("row01;");
        due("it has", g.floods(0, 0, 0), STATE);
        due("it has", g.floods(1, 0, 1), STATE);
        due("x", g.floods(-1, 0, 0), BAD);
        due("x", g.floods(2, 0, 0), BAD);
        due("y", g.floods(0, -1, 0), BAD);
        due("y", g.floods(0, 1, 0), BAD);
        due("height", g.floods(0, 0, -1), BAD);
        due("height", g.floods(0, 0, 4), BAD);
        due("undone", g.count(7), 1);
        due("it has not", g.floods(0, 0, 1), 1);
        due("it has now", g.floods(0, 0, 1), STATE);
    }

    private static void settlesHowMany() {
        CHECK.sentence("SETTLED: how many CELLS are CHANGED.");
        GroundEdges g = Check.told("row0;row2;");
        due("one", g.settles(), 1);
        CHECK.map("settled", g, "0 0");
        Check.tell(g, "row0000;row0000;row0300;row0000;row0000;row0000;fix1 2;");
        due("nineteen", g.settles(), 19);
        due("nothing jars", g.jars(), 0);
    }

    private static void settlesNone() {
        CHECK.sentence("STATE: none is JARRING, or there is no way.");
        GroundEdges g = new GroundEdges();
        due("one cell", g.settles(), STATE);
        Check.tell(g, "row0123;fix0 0;fix3 0;");
        due("none jars", g.settles(), STATE);
        Check.tell(g, "row0133;fix0 0;fix2 0;");
        due("no way", g.settles(), STATE);
        CHECK.map("nothing is settled", g, "0133");
        due("undone", g.count(7), 2);
        g.fixes(2, 0, 0);
        due("a way", g.settles(), 1);
        CHECK.map("settled", g, "0123");
        due("none jars any more", g.settles(), STATE);
    }

    private static void fixesHowMany() {
        CHECK.sentence("A CELL is FIXED (is = 1), or not (0): how many are.");
        GroundEdges g = Check.told("row00;");
        due("one", g.fixes(1, 0, 1), 1);
        due("all", g.fixes(0, 0, 1), 2);
        due("one again", g.fixes(1, 0, 0), 1);
        CHECK.fixed("fixed", g, "10");
        due("none", g.fixes(0, 0, 0), 0);
        CHECK.fixed("fixed", g, "00");
    }

    private static void fixesWhatIsSo() {
        CHECK.sentence("BAD; STATE: it is so.");
        GroundEdges g = Check.told("row00;fix1 0;");
        due("it is fixed", g.fixes(1, 0, 1), STATE);
        due("it is not", g.fixes(0, 0, 0), STATE);
        due("is", g.fixes(1, 0, 2), BAD);
        due("is", g.fixes(0, 0, -1), BAD);
        due("x", g.fixes(2, 0, 1), BAD);
        due("x", g.fixes(-1, 0, 1), BAD);
        due("y", g.fixes(0, 1, 1), BAD);
        due("y", g.fixes(0, -1, 0), BAD);
        CHECK.fixed("as it was", g, "01");
        due("undone", g.count(7), 1);
    }

    private static void undoHowManyMore() {
        CHECK.sentence("UNDONE: how many more may be.");
        GroundEdges g = new GroundEdges();
        for (int i = 1; i <= 7; i++) {
            g.paints(0, 0, 0, 0, i % 4);
        }
        for (int more = 5; more >= 0; more--) {
            due("undo()", g.undo(), more);
            due("count(7)", g.count(7), more);
            due("height", g.cell(0, 0, 0), (more + 1) % 4);
        }
        due("what is done then", g.paints(0, 0, 0, 0, 2), 1);
        due("can be undone", g.undo(), 0);
        due("height", g.cell(0, 0, 0), 1);
    }

    private static void undoNone() {
        CHECK.sentence("STATE: none.");
        GroundEdges g = new GroundEdges();
        due("nothing was done", g.undo(), STATE);
        g.fixes(0, 0, 1);
        due("one was done", g.undo(), 0);
        due("it is undone", g.undo(), STATE);
        due("not fixed", g.cell(0, 0, 1), 0);
    }

    // ---- asked

    private static void cellWhat() {
        CHECK.sentence("Of a CELL: 0 HEIGHT, 1 whether it is FIXED (1, 0), 2 which of KINDS it is.");
        GroundEdges g = Check.told("row30;fix0 0;");
        int[][] answers = {{3, 1, 0}, {0, 0, 1}};
        for (int x = 0; x < 2; x++) {
            for (int what = 0; what < 3; what++) {
                due("cell(" + x + ", 0, " + what + ")", g.cell(x, 0, what), answers[x][what]);
            }
        }
    }

    private static void cellBad() {
        CHECK.sentence("2 which of KINDS it is. BAD.");
        GroundEdges g = Check.told("row000;row000;");
        due("what", g.cell(0, 0, -1), BAD);
        due("what", g.cell(0, 0, 3), BAD);
        for (int what = 0; what < 3; what++) {
            due("x", g.cell(-1, 0, what), BAD);
            due("x", g.cell(3, 0, what), BAD);
            due("y", g.cell(0, -1, what), BAD);
            due("y", g.cell(0, 2, what), BAD);
            due("the last", g.cell(2, 1, what), 0);
        }
    }

    private static void squareWhat() {
        CHECK.sentence("MASK (what = 0), SQUARE (1; NONE) of a CELL in a LAYER.");
        GroundEdges g = Check.told("row2;");
        int[][] answers = {{255, 46}, {255, 46}, {0, NONE}};
        for (int layer = 1; layer <= 3; layer++) {
            for (int what = 0; what < 2; what++) {
                due("square(0, 0, " + layer + ", " + what + ")", g.square(0, 0, layer, what), answers[layer - 1][what]);
            }
        }
        Check.tell(g, "row3;beyond0;");
        due("the least mask", g.square(0, 0, 3, 0), 0);
        due("the first square", g.square(0, 0, 3, 1), 0);
    }

    private static void squareBad() {
        CHECK.sentence("of a CELL in a LAYER. BAD.");
        GroundEdges g = Check.told("row33;row33;");
        for (int what = 0; what < 2; what++) {
            due("layer", g.square(0, 0, 0, what), BAD);
            due("layer", g.square(0, 0, 4, what), BAD);
            due("x", g.square(-1, 0, 1, what), BAD);
            due("x", g.square(2, 0, 1, what), BAD);
            due("y", g.square(0, -1, 1, what), BAD);
            due("y", g.square(0, 2, 1, what), BAD);
        }
        due("what", g.square(0, 0, 1, -1), BAD);
        due("what", g.square(0, 0, 1, 2), BAD);
        due("the last", g.square(1, 1, 3, 1), 46);
    }

    private static void kindHowMany() {
        CHECK.sentence("How many KINDS there are (k = -1; what 0 alone)");
        due("of one cell", new GroundEdges().kind(-1, 0), 1);
        due("of two", Check.told("row01;").kind(-1, 0), 2);
        due("of as many as can be", Check.told("row1233;row3331;row1023;row1233;row1212;row3332;beyond0;").kind(-1, 0), 24);
        for (int what : new int[] {-1, 1, 2, 3, 4}) {
            due("what " + what, new GroundEdges().kind(-1, what), BAD_KIND);
        }
    }

    private static void kindOfTheKth() {
        CHECK.sentence("of the k-th (0 on): how many CELLS (what = 0), SQUARE in LAYER 1, 2, 3 (1, 2, 3; NONE).");
        GroundEdges g = Check.told("row133;");
        int[][] kinds = {{1, 46, NONE, NONE}, {1, 46, 12, 12}, {1, 46, 46, 46}};
        due("how many", g.kind(-1, 0), 3);
        for (int k = 0; k < 3; k++) {
            for (int what = 0; what < 4; what++) {
                due("kind(" + k + ", " + what + ")", g.kind(k, what), kinds[k][what]);
            }
        }
        g = Check.told("row0;beyond3;");
        due("one cell", g.kind(0, 0), 1);
        due("no square", g.kind(0, 1), NONE);
        g = Check.told(LARGEST);
        due("all cells", g.kind(0, 0), 24);
    }

    private static void kindBad() {
        CHECK.sentence("-5: BAD.");
        GroundEdges g = Check.told("row01;");
        due("k", g.kind(-2, 0), BAD_KIND);
        for (int what = 0; what < 4; what++) {
            due("k", g.kind(2, what), BAD_KIND);
        }
        due("what", g.kind(0, -1), BAD_KIND);
        due("what", g.kind(1, 4), BAD_KIND);
        Check.tell(g, "row00;");
        due("no second any more", g.kind(1, 0), BAD_KIND);
    }

    private static void jarsHowMany() {
        CHECK.sentence("JARRING: how many pairs.");
        due("one cell", new GroundEdges().jars(), 0);
        due("one pair", Check.told("row02;").jars(), 1);
        due("three pairs", Check.told("row00;row02;").jars(), 3);
        due("as many as two rows and two rows have", Check.told("row0000;row3333;row0000;row3333;row0000;row3333;").jars(), 50);
    }

    private static void leastHowMany() {
        CHECK.sentence("LEAST CHANGE: how many CELLS are CHANGED (n = -1)");
        due("one cell", new GroundEdges().least(-1), 0);
        due("one of two", Check.told("row03;").least(-1), 1);
        due("all but the fixed one", Check.told("row000;row030;row000;fix1 1;").least(-1), 8);
        due("no way", Check.told("row03;fix0 0;fix1 0;").least(-1), NONE);
    }

    private static void leastHeight() {
        CHECK.sentence("HEIGHT of the n-th CELL by it; NONE: there is no way.");
        GroundEdges g = Check.told("row0003;fix0 0;fix3 0;");
        for (int n = 0; n < 4; n++) {
            due("cell " + n, g.least(n), n);
        }
        CHECK.map("nothing changes", g, "0003");
        g.paints(1, 0, 1, 0, 3);
        g.fixes(1, 0, 1);
        for (int n = -1; n < 4; n++) {
            due("no way, " + n, g.least(n), NONE);
        }
    }

    private static void leastBad() {
        CHECK.sentence("BAD (n below -1, no such CELL).");
        GroundEdges g = new GroundEdges();
        due("below -1", g.least(-2), BAD);
        due("the one", g.least(0), 0);
        due("no second", g.least(1), BAD);
        Check.tell(g, LARGEST);
        due("the last", g.least(23), 0);
        due("none behind it", g.least(24), BAD);
        Check.tell(g, "row03;fix0 0;fix1 0;");
        due("below -1, without a way", g.least(-2), BAD);
        due("no third, without a way", g.least(2), BAD);
    }

    // ---- which cell

    private static void seesFromFirstToLast() {
        CHECK.sentence("SEEN (LAYER 1 .. 3; SQUARE 0 .. 46, NONE): how much there is.");
        for (int layer = 0; layer <= 4; layer++) {
            for (int square = -12; square <= 49; square++) {
                boolean can = layer >= 1 && layer <= 3 && (square == -9 || square >= 0 && square <= 46);
                due("sees(" + layer + ", " + square + ")", new GroundEdges().sees(layer, square), can ? 1 : BAD);
            }
        }
        GroundEdges g = Check.told("row3;");
        g.sees(3, 46);
        due("the last square", g.which(0), 1);
        Check.tell(g, "row3;beyond0;");
        due("not the last one now", g.which(0), 0);
        g.forget();
        g.sees(3, 0);
        due("the first square", g.which(0), 1);
    }

    private static void seesUntilFull() {
        CHECK.sentence("BAD; FULL: 6.");
        GroundEdges g = new GroundEdges();
        for (int i = 1; i <= 6; i++) {
            due("sees() " + i, g.sees(1, NONE), i);
        }
        due("the seventh", g.sees(1, NONE), FULL);
        due("the eighth", g.sees(2, 0), FULL);
        due("a wrong layer", g.sees(0, 0), BAD);
        due("a wrong square", g.sees(1, 47), BAD);
        due("how much", g.count(5), 6);
        due("which(0)", g.which(0), 1);
        g.forget();
        due("the first again", g.sees(1, NONE), 1);
    }

    private static void forgetNoneAndAll() {
        CHECK.sentence("Nothing is SEEN: how much was.");
        for (int seen = 0; seen <= 6; seen++) {
            GroundEdges g = new GroundEdges();
            for (int i = 0; i < seen; i++) {
                g.sees(1, 7);
            }
            due("forget() of " + seen, g.forget(), seen);
            due("how much", g.count(5), 0);
            due("all may be", g.which(0), 1);
            due("forget() again", g.forget(), 0);
        }
    }

    private static void whichHowMany() {
        CHECK.sentence("WHICH: how many (what = 0), the first's number (1; NONE).");
        GroundEdges g = Check.told("row0000;row0000;row0000;row0000;row0000;row0001;beyond0;");
        due("all", g.which(0), 24);
        due("the first", g.which(1), 0);
        g.sees(1, 0);
        due("one", g.which(0), 1);
        due("the last", g.which(1), 23);
        g.sees(1, NONE);
        due("none", g.which(0), 0);
        due("no first", g.which(1), NONE);
    }

    private static void whichBad() {
        CHECK.sentence("the first's number (1; NONE). BAD.");
        GroundEdges g = new GroundEdges();
        due("what", g.which(-1), BAD);
        due("what", g.which(2), BAD);
        g.sees(1, 3);
        due("what, none being left", g.which(2), BAD);
    }

    private static void look() {
        CHECK.sentence("LOOK; NONE.");
        GroundEdges g = new GroundEdges();
        due("one cell", g.look(), NONE);
        Check.tell(g, "row2223;");
        due("layer 3", g.look(), 3);
        g.sees(3, NONE);
        due("three alike", g.look(), 1);
        g.sees(1, NONE);
        due("no cell", g.look(), NONE);
        g.forget();
        g.sees(3, 12);
        due("one of four", g.look(), NONE);
    }

    // ---- images

    private static void keepHowMany() {
        CHECK.sentence("An IMAGE is kept: how many CELLS.");
        GroundEdges g = new GroundEdges();
        due("one cell", g.keep(0), 1);
        Check.tell(g, LARGEST);
        due("all that can be", g.keep(1), 24);
        due("over another", g.keep(0), 24);
        due("undone still", g.undo(), 0);
        due("back(0)", g.back(0), 24);
    }

    private static void keepBad() {
        CHECK.sentence("An IMAGE is kept: how many CELLS. BAD.");
        GroundEdges g = new GroundEdges();
        due("keep(-1)", g.keep(-1), BAD);
        due("keep(2)", g.keep(2), BAD);
        due("none was kept", g.back(0), STATE);
        due("none was kept", g.back(1), STATE);
    }

    private static void backHowMany() {
        CHECK.sentence("All of that becomes as an IMAGE has it: how many CELLS.");
        GroundEdges g = Check.told("row123;fix1 0;beyond1;");
        g.keep(1);
        Check.tell(g, LARGEST);
        due("back(1)", g.back(1), 3);
        CHECK.map("back", g, "123");
        CHECK.fixed("back", g, "010");
        due("beyond", g.count(2), 1);
        g.paints(0, 0, 2, 0, 0);
        g.fixes(1, 0, 0);
        due("back(1) again", g.back(1), 3);
        CHECK.map("the image stays as it is", g, "123");
        CHECK.fixed("the image stays as it is", g, "010");
    }

    private static void backNone() {
        CHECK.sentence("BAD; STATE: none was kept.");
        GroundEdges g = new GroundEdges();
        due("back(0)", g.back(0), STATE);
        due("back(1)", g.back(1), STATE);
        due("back(-1)", g.back(-1), BAD);
        due("back(2)", g.back(2), BAD);
        g.keep(0);
        due("back(0), kept", g.back(0), 1);
        due("back(1), not kept", g.back(1), STATE);
    }

    private static void countEach() {
        CHECK.sentence("0 W, 1 H, 2 BEYOND (NONE), 3 how many CELLS are FIXED, 4 all HEIGHTS together, 5 SEEN, 6 letters of THE TEXT, 7 how many may be UNDONE.");
        GroundEdges g = Check.told("row3333;row3333;row3333;row3333;row3333;row3333;beyond3;");
        for (int n = 0; n < 24; n++) {
            g.fixes(n % 4, n / 4, 1);
        }
        for (int i = 0; i < 7; i++) {
            g.sees(3, 46);
        }
        Check.type(g, " ".repeat(121));
        int[] counts = {4, 6, 3, 24, 72, 6, 120, 6};
        for (int what = 0; what < 8; what++) {
            due("count(" + what + ") of all", g.count(what), counts[what]);
        }
    }

    private static void countBad() {
        CHECK.sentence("7 how many may be UNDONE. BAD.");
        GroundEdges g = new GroundEdges();
        due("count(-1)", g.count(-1), BAD);
        due("count(8)", g.count(8), BAD);
    }
}
