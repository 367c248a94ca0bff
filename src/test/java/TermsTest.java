/** The sentences of the document's parts 1 to 3 that name a boundary: each has a method of its own. */
public final class TermsTest {
    private static final int BAD = -1, STATE = -2, FULL = -3, NONE = -9;
    private static final int[] RIGHT = {0, 1, 1, 1, 0, -1, -1, -1};
    private static final int[] DOWN = {-1, -1, 0, 1, 1, 1, 0, -1};
    private static final String LARGEST = "row0000;row0000;row0000;row0000;row0000;row0000;";
    /** Each cell of it is a kind of its own. */
    private static final String ALL_UNLIKE = "row1233;row3331;row1023;row1233;row1212;row3332;beyond0;";
    private static final Check CHECK = new Check();

    public static void main(String[] args) {
        columnsAndRows();
        numbersOfCells();
        heights();
        fixedCells();
        beyond();
        neighbours();
        whatIsBeyond();
        whatIsNearest();
        layers();
        cellsOfALayer();
        beyondOfALayer();
        maskOfACellThatIsNotOfTheLayer();
        maskFromNoneToAll();
        cornersCountOnlyBetweenTwo();
        squaresOneByOne();
        squareOfACellThatIsNotOfTheLayer();
        kindsFromOneToAll();
        kindsAsTheyComeFirst();
        jarringIsMoreThanOneApart();
        jarringAmongNeighboursAlone();
        changedAreThoseOfAnotherHeight();
        leastIsNoChange();
        leastOfAllFixed();
        leastAsFarAsItGoes();
        leastOfSeveral();
        leastWithoutAWay();
        paintedFromOneToAll();
        floodedOverSidesAlone();
        floodedFromOneToAll();
        fixedOnesToo();
        settledAsByLeastChange();
        eachThatIsDoneCanBeUndone();
        doneBehindWhatIsUndone();
        refusedOnesAreNotUndone();
        sixAreKnown();
        nothingIsChangedByAsking();
        sixAreSeen();
        whichAsTheMapIsThen();
        whichOfNone();
        lookForTheLeast();
        lookOfOneAtMost();
        imagesKeepNothingElse();
        nothingUndoneBehindBack();
        aTextToldLeavesSeenAndImages();
        CHECK.end();
    }

    private static void due(String call, int got, int want) {
        CHECK.due(call, got, want);
    }

    /** A map of one height, as a text. */
    private static String flat(int columns, int rows, int height) {
        return ("row" + String.valueOf(height).repeat(columns) + ";").repeat(rows);
    }

    // ---- 1

    private static void columnsAndRows() {
        CHECK.sentence("THE MAP has W columns (1 to 4), H rows (1 to 6) of CELLS (1 and 1 at first)");
        GroundEdges first = new GroundEdges();
        due("W at first", first.count(0), 1);
        due("H at first", first.count(1), 1);
        for (int w = 1; w <= 4; w++) {
            for (int h = 1; h <= 6; h++) {
                GroundEdges g = Check.told(flat(w, h, 2));
                due("W of " + w + " and " + h, g.count(0), w);
                due("H of " + w + " and " + h, g.count(1), h);
                due("all heights of " + w + " and " + h, g.count(4), 2 * w * h);
            }
            due("seven rows of " + w, Check.tell(new GroundEdges(), flat(w, 7, 0)), -10 - 6 * (4 + w));
        }
        for (int w = 5; w <= 9; w++) {
            due(w + " columns", Check.tell(new GroundEdges(), flat(w, 1, 0)), -10 - 3);
        }
    }

    private static void numbersOfCells() {
        CHECK.sentence("CELL x, y (column, row, from 0; its number");
        CHECK.sentence("W times y, and x)");
        for (int w = 1; w <= 4; w++) {
            for (int h = 1; h <= 6; h++) {
                GroundEdges g = Check.told(flat(w, h, 0) + "beyond 0;");
                g.sees(1, 0);
                for (int n = 0; n < w * h; n++) {
                    String cell = "cell " + n % w + ", " + n / w + " of " + w + " and " + h;
                    due(cell, g.paints(n % w, n / w, n % w, n / w, 1), 1);
                    due(cell + " is the first seen", g.which(1), n);
                    due(cell + " is the n-th of least()", g.least(n), 1);
                    g.undo();
                }
                due("no column W", g.cell(w, 0, 0), BAD);
                due("no row H", g.cell(0, h, 0), BAD);
                due("no column below 0", g.cell(-1, h - 1, 0), BAD);
                due("no row below 0", g.cell(w - 1, -1, 0), BAD);
                due("no cell W times H", g.least(w * h), BAD);
            }
        }
    }

    private static void heights() {
        CHECK.sentence("has a HEIGHT 0 to 3 (0 at first)");
        GroundEdges g = new GroundEdges();
        due("at first", g.cell(0, 0, 0), 0);
        for (int height : new int[] {3, 0, 1, 2}) {
            due("painted " + height, g.paints(0, 0, 0, 0, height), 1);
            due("is " + height, g.cell(0, 0, 0), height);
        }
        due("painted -1", g.paints(0, 0, 0, 0, -1), BAD);
        due("painted 4", g.paints(0, 0, 0, 0, 4), BAD);
        due("flooded -1", g.floods(0, 0, -1), BAD);
        due("flooded 4", g.floods(0, 0, 4), BAD);
        due("told 3", Check.tell(g, "row3;"), 1);
        due("told 4", Check.tell(g, "row4;"), -13);
        due("is 3", g.cell(0, 0, 0), 3);
    }

    private static void fixedCells() {
        CHECK.sentence("FIXED: some CELLS (none at first)");
        GroundEdges g = new GroundEdges();
        due("at first", g.cell(0, 0, 1), 0);
        due("none at first", g.count(3), 0);
        Check.tell(g, LARGEST);
        for (int n = 0; n < 24; n++) {
            due("cell " + n, g.fixes(n % 4, n / 4, 1), n + 1);
        }
        due("all", g.count(3), 24);
        CHECK.fixed("all", g, "1111 1111 1111 1111 1111 1111");
        for (int n = 0; n < 24; n++) {
            due("cell " + n, g.fixes(n % 4, n / 4, 0), 23 - n);
        }
        CHECK.fixed("none", g, "0000 0000 0000 0000 0000 0000");
    }

    private static void beyond() {
        CHECK.sentence("BEYOND: 0 to 3, or none (at first)");
        GroundEdges g = new GroundEdges();
        due("at first", g.count(2), NONE);
        for (int t = 0; t <= 3; t++) {
            Check.tell(g, "row0;beyond" + t + ";");
            due("told " + t, g.count(2), t);
        }
        due("told 4", Check.tell(g, "row0;beyond4;"), -10 - 11);
        due("as it was", g.count(2), 3);
        Check.tell(g, "row0;");
        due("none again", g.count(2), NONE);
    }

    private static void neighbours() {
        CHECK.sentence("the eight around it: 0 up, 1 up and right, 2 right, 3 down and right, 4 down, 5 down and left, 6 left, 7 up and left.");
        for (int k = 0; k < 8; k++) {
            GroundEdges g = Check.told(flat(3, 3, 0) + "beyond0;");
            g.paints(1 + RIGHT[k], 1 + DOWN[k], 1 + RIGHT[k], 1 + DOWN[k], 1);
            due("neighbour " + k + " alone", g.square(1, 1, 1, 0), k % 2 == 0 ? 1 << k : 0);
            Check.tell(g, flat(3, 3, 1) + "beyond1;");
            g.paints(1 + RIGHT[k], 1 + DOWN[k], 1 + RIGHT[k], 1 + DOWN[k], 0);
            int corners = k % 2 == 0 ? 1 << (k + 1) % 8 | 1 << (k + 7) % 8 : 0;
            due("all but neighbour " + k, g.square(1, 1, 1, 0), 255 - (1 << k) - corners);
        }
    }

    private static void masks(GroundEdges g, String when, int[][] cells) {
        for (int[] cell : cells) {
            due(when + ": " + cell[0] + ", " + cell[1], g.square(cell[0], cell[1], 1, 0), cell[2]);
        }
    }

    private static void whatIsBeyond() {
        CHECK.sentence("What is not of THE MAP has the HEIGHT BEYOND");
        int[][] largest = {{0, 0, 193}, {1, 0, 1}, {2, 0, 1}, {3, 0, 7}, {0, 1, 64}, {1, 1, 0}, {3, 1, 4}, {0, 4, 64}, {2, 4, 0}, {3, 4, 4},
            {0, 5, 112}, {1, 5, 16}, {2, 5, 16}, {3, 5, 28}};
        masks(Check.told(LARGEST + "beyond1;"), "4 and 6", largest);
        masks(Check.told(flat(1, 1, 0) + "beyond1;"), "1 and 1", new int[][] {{0, 0, 255}});
        masks(Check.told(flat(1, 6, 0) + "beyond1;"), "1 and 6", new int[][] {{0, 0, 199}, {0, 1, 68}, {0, 4, 68}, {0, 5, 124}});
        masks(Check.told(flat(4, 1, 0) + "beyond1;"), "4 and 1", new int[][] {{0, 0, 241}, {1, 0, 17}, {2, 0, 17}, {3, 0, 31}});
        masks(Check.told(flat(1, 1, 3) + "beyond0;"), "nothing beyond", new int[][] {{0, 0, 0}});
    }

    private static void whatIsNearest() {
        CHECK.sentence("if that is none, it has that of the CELL of THE MAP that is nearest to it in column and row each.");
        int[][] corners = {{0, 0, 193}, {3, 0, 7}, {0, 5, 112}, {3, 5, 28}};
        for (int[] corner : corners) {
            GroundEdges g = Check.told(LARGEST);
            g.paints(corner[0], corner[1], corner[0], corner[1], 1);
            masks(g, "one corner", new int[][] {corner});
        }
        GroundEdges g = Check.told(LARGEST);
        g.paints(0, 0, 0, 0, 1);
        masks(g, "beside a corner", new int[][] {{1, 0, 64}, {0, 1, 1}, {1, 1, 0}});
        g.undo();
        g.paints(1, 0, 1, 0, 1);
        masks(g, "an edge", new int[][] {{1, 0, 1}, {0, 0, 4}, {2, 0, 64}, {1, 1, 1}});
        masks(Check.told("row1;row0;row0;row0;row0;row0;"), "one column", new int[][] {{0, 0, 199}, {0, 1, 1}, {0, 2, 0}});
        masks(Check.told("row1000;"), "one row", new int[][] {{0, 0, 241}, {1, 0, 64}, {2, 0, 0}});
        masks(Check.told("row1;"), "one cell", new int[][] {{0, 0, 255}});
        masks(Check.told("row0;"), "one cell of height 0", new int[][] {{0, 0, 0}});
    }

    // ---- 2

    private static void layers() {
        CHECK.sentence("LAYERS 1 to 3.");
        GroundEdges g = Check.told("row3;");
        for (int layer = 1; layer <= 3; layer++) {
            due("layer " + layer, g.square(0, 0, layer, 1), 46);
            due("seen in layer " + layer, g.sees(layer, 46), layer);
        }
        for (int layer : new int[] {0, 4}) {
            due("layer " + layer, g.square(0, 0, layer, 1), BAD);
            due("seen in layer " + layer, g.sees(layer, 46), BAD);
        }
    }

    private static void cellsOfALayer() {
        CHECK.sentence("A CELL is OF a LAYER if its HEIGHT is that or more");
        for (int height = 0; height <= 3; height++) {
            GroundEdges g = Check.told("row" + height + "0;beyond0;");
            for (int layer = 1; layer <= 3; layer++) {
                due("height " + height + " in layer " + layer, g.square(0, 0, layer, 1), height >= layer ? 0 : NONE);
                due("beside it", g.square(1, 0, layer, 0), height >= layer ? 64 : 0);
            }
        }
    }

    private static void beyondOfALayer() {
        CHECK.sentence("likewise what is not of THE MAP.");
        for (int t = 0; t <= 3; t++) {
            GroundEdges g = Check.told("row3;beyond" + t + ";");
            for (int layer = 1; layer <= 3; layer++) {
                due("beyond " + t + " in layer " + layer, g.square(0, 0, layer, 0), t >= layer ? 255 : 0);
            }
        }
    }

    private static void maskOfACellThatIsNotOfTheLayer() {
        CHECK.sentence("MASK of a CELL in a LAYER (be it OF it or not)");
        for (int height = 0; height <= 3; height++) {
            GroundEdges g = Check.told("row333;row3" + height + "3;row333;");
            for (int layer = 1; layer <= 3; layer++) {
                due("height " + height + " in layer " + layer, g.square(1, 1, layer, 0), 255);
            }
        }
    }

    private static void maskFromNoneToAll() {
        CHECK.sentence("of NEIGHBOURS k (0 to 7) that are OF the LAYER, 2 to the k, together");
        GroundEdges g = Check.told("row000;row010;row000;");
        due("none", g.square(1, 1, 1, 0), 0);
        int[] order = {0, 2, 1, 4, 3, 6, 5, 7};
        int[] sums = {1, 5, 7, 23, 31, 95, 127, 255};
        for (int i = 0; i < 8; i++) {
            int k = order[i];
            g.paints(1 + RIGHT[k], 1 + DOWN[k], 1 + RIGHT[k], 1 + DOWN[k], 1);
            due("up to neighbour " + k, g.square(1, 1, 1, 0), sums[i]);
        }
        due("all in layer 2", g.square(1, 1, 2, 0), 0);
        g = Check.told("row000;row010;row000;");
        for (int k = 0; k < 8; k += 2) {
            g.paints(1 + RIGHT[k], 1 + DOWN[k], 1 + RIGHT[k], 1 + DOWN[k], 1);
        }
        due("the four at sides", g.square(1, 1, 1, 0), 1 + 4 + 16 + 64);
    }

    private static void cornersCountOnlyBetweenTwo() {
        CHECK.sentence("those at corners (1, 3, 5, 7) count only if both NEIGHBOURS beside them (k less 1; k and 1, 8 being 0) are OF it, too.");
        for (int k = 1; k < 8; k += 2) {
            int[] beside = {k - 1, (k + 1) % 8};
            for (int which = 0; which < 4; which++) {
                GroundEdges g = Check.told(flat(3, 3, 0) + "beyond0;");
                g.paints(1 + RIGHT[k], 1 + DOWN[k], 1 + RIGHT[k], 1 + DOWN[k], 2);
                int mask = which == 3 ? 1 << k : 0;
                for (int i = 0; i < 2; i++) {
                    if ((which >> i & 1) == 1) {
                        g.paints(1 + RIGHT[beside[i]], 1 + DOWN[beside[i]], 1 + RIGHT[beside[i]], 1 + DOWN[beside[i]], 2);
                        mask += 1 << beside[i];
                    }
                }
                due("corner " + k + ", beside it " + which, g.square(1, 1, 2, 0), mask);
            }
        }
    }

    private static void squaresOneByOne() {
        CHECK.sentence("There are 47 such numbers: SQUARE: how many of them are less than it (0 to 46).");
        int squares = 0;
        int last = -1;
        for (int around = 0; around < 256; around++) {
            char[] map = "row000;row010;row000;".toCharArray();
            for (int k = 0; k < 8; k++) {
                map[7 * (1 + DOWN[k]) + 4 + RIGHT[k]] = (char) ('0' + (around >> k & 1));
            }
            GroundEdges g = Check.told(new String(map));
            int mask = g.square(1, 1, 1, 0);
            if (mask == around) {
                CHECK.isTrue("numbers grow", mask > last);
                due("square of " + mask, g.square(1, 1, 1, 1), squares);
                last = mask;
                squares++;
            } else {
                CHECK.isTrue(around + " is no number, and more than " + mask, mask < around);
            }
        }
        due("how many", squares, 47);
        due("the last", last, 255);
    }

    private static void squareOfACellThatIsNotOfTheLayer() {
        CHECK.sentence("SQUARE of a CELL that is not OF the LAYER: NONE.");
        for (int height = 0; height <= 3; height++) {
            GroundEdges g = Check.told("row333;row3" + height + "3;row333;");
            for (int layer = 1; layer <= 3; layer++) {
                due("height " + height + " in layer " + layer, g.square(1, 1, layer, 1), height < layer ? NONE : 46);
            }
        }
    }

    private static void kindsFromOneToAll() {
        CHECK.sentence("ROW of a CELL: its SQUARES in LAYERS 1, 2, 3.");
        GroundEdges alike = Check.told(LARGEST);
        due("all alike", alike.kind(-1, 0), 1);
        due("cells of the one", alike.kind(0, 0), 24);
        due("no second", alike.kind(1, 0), -5);
        GroundEdges unlike = Check.told(ALL_UNLIKE);
        due("all unlike", unlike.kind(-1, 0), 24);
        for (int n = 0; n < 24; n++) {
            due("cells of " + n, unlike.kind(n, 0), 1);
            due("kind of " + n, unlike.cell(n % 4, n / 4, 2), n);
            for (int layer = 1; layer <= 3; layer++) {
                due("square of " + n, unlike.kind(n, layer), unlike.square(n % 4, n / 4, layer, 1));
            }
        }
        due("no 25th", unlike.kind(24, 0), -5);
        for (int height = 0; height < 3; height++) {
            int next = height + 1;
            GroundEdges two = Check.told("row" + height + next + ";beyond3;");
            due("unlike in one layer, height " + height, two.kind(-1, 0), 2);
        }
    }

    private static void kindsAsTheyComeFirst() {
        CHECK.sentence("KINDS: unlike ROWS that CELLS have, numbered as they come first by CELLS' numbers.");
        GroundEdges g = Check.told("row01;row01;row01;");
        due("the first's", g.kind(0, 1), NONE);
        due("the second's", g.kind(1, 1), 12);
        Check.tell(g, "row10;row10;row10;");
        due("the first's", g.kind(0, 1), 42);
        due("the second's", g.kind(1, 1), NONE);
        for (int y = 0; y < 3; y++) {
            due("kind of 0, " + y, g.cell(0, y, 2), 0);
            due("kind of 1, " + y, g.cell(1, y, 2), 1);
        }
        due("cells of the first", g.kind(0, 0), 3);
        due("cells of the second", g.kind(1, 0), 3);
    }

    private static void jarringIsMoreThanOneApart() {
        CHECK.sentence("JARRING: pairs of CELLS of THE MAP that are NEIGHBOURS and of HEIGHTS more than 1 apart.");
        for (int a = 0; a <= 3; a++) {
            for (int b = 0; b <= 3; b++) {
                int jars = Math.abs(a - b) > 1 ? 1 : 0;
                due(a + " beside " + b, Check.told("row" + a + b + ";").jars(), jars);
                due(a + " above " + b, Check.told("row" + a + ";row" + b + ";").jars(), jars);
            }
        }
        for (int low = 0; low <= 1; low++) {
            String one = "row" + low + (low + 1) + ";row" + (low + 1) + (low + 2) + ";";
            String other = "row" + (low + 1) + low + ";row" + (low + 2) + (low + 1) + ";";
            due("at a corner", Check.told(one).jars(), 1);
            due("at the other corner", Check.told(other).jars(), 1);
        }
    }

    private static void jarringAmongNeighboursAlone() {
        CHECK.sentence("pairs of CELLS of THE MAP that are NEIGHBOURS");
        due("two apart", Check.told("row012;").jars(), 0);
        due("two rows apart", Check.told("row0;row1;row2;").jars(), 0);
        due("a row's end and the next one's start", Check.told("row0123;row0123;row0123;").jars(), 0);
        due("what is beyond", Check.told("row0;beyond3;").jars(), 0);
        due("all eight", Check.told("row000;row030;row000;").jars(), 8);
        due("each pair once", Check.told("row0303;row3030;row0303;row3030;row0303;row3030;").jars(), 38);
        due("none", Check.told(LARGEST).jars(), 0);
    }

    private static void leastIs(String text, int changed, String heights) {
        GroundEdges g = Check.told(text);
        due("least(-1) of " + text, g.least(-1), changed);
        for (int n = 0; n < heights.length(); n++) {
            due("least(" + n + ") of " + text, g.least(n), heights.charAt(n) - '0');
        }
    }

    private static void leastIsNone(String text) {
        GroundEdges g = Check.told(text);
        for (int n = -1; n < g.count(0) * g.count(1); n++) {
            due("least(" + n + ") of " + text, g.least(n), NONE);
        }
    }

    private static void changedAreThoseOfAnotherHeight() {
        CHECK.sentence("CHANGED, of CELLS: that have another HEIGHT.");
        String[] texts = {"row0;", "row12;", "row02;", "row000;row030;row000;", "row030;fix1 0;", "row0123;row0123;row0123;row3210;row3210;row3210;"};
        for (String text : texts) {
            GroundEdges g = Check.told(text);
            int others = 0;
            for (int n = 0; n < g.count(0) * g.count(1); n++) {
                others += g.least(n) == g.cell(n % g.count(0), n / g.count(0), 0) ? 0 : 1;
            }
            due("changed of " + text, g.least(-1), others);
            due("settled of " + text, g.settles(), others == 0 ? STATE : others);
        }
        due("all but the fixed one", Check.told("row030;fix1 0;").least(-1), 2);
        due("a cell in the middle", Check.told("row000;row030;row000;").least(-1), 1);
    }

    private static void leastIsNoChange() {
        CHECK.sentence("those by which the fewest CELLS are CHANGED");
        leastIs("row3;", 0, "3");
        leastIs("row0123;", 0, "0123");
        leastIs("row3333;row2222;row1111;row0000;row0111;row0122;", 0, "333322221111000001110122");
        leastIs("row0;row0;row0;row0;row0;row3;", 1, "000000");
        leastIs("row3;row3;row3;row3;row3;row0;", 1, "333332");
        leastIs("row3333;row3333;row3333;row0000;row0000;row0000;", 8, "333322221111000000000000");
    }

    private static void leastOfAllFixed() {
        CHECK.sentence("FIXED ones as they are, so that none is JARRING");
        leastIs("row12;fix0 0;fix1 0;", 0, "12");
        leastIs("row03;fix0 0;", 1, "00");
        leastIs("row03;fix1 0;", 1, "23");
        leastIs("row30;fix0 0;", 1, "32");
        leastIs("row30;fix1 0;", 1, "00");
        leastIsNone("row03;fix0 0;fix1 0;");
    }

    /** A fixed cell of height 3 in ground of height 0 changes all that is less than three cells away. */
    private static void leastAsFarAsItGoes() {
        CHECK.sentence("LEAST CHANGE: of all ways to give HEIGHTS to CELLS");
        leastIs("row000;row030;row000;fix1 1;", 8, "222232222");
        leastIs("row0000;row0000;row0300;row0000;row0000;row0000;fix1 2;", 19, "111122212321222111110000");
        leastIs("row3000;row0000;row0000;row0000;row0000;row0000;fix0 0;", 8, "321022101110000000000000");
        leastIs("row3333;row3333;row3333;row3333;row3333;row3330;fix3 5;", 8, "333333333333322232113210");
    }

    private static void leastOfSeveral() {
        CHECK.sentence("of several that one which at the first CELL (by numbers) at which they differ has the lesser HEIGHT");
        leastIs("row03;", 1, "00");
        leastIs("row30;", 1, "00");
        leastIs("row13;", 1, "10");
        leastIs("row31;", 1, "01");
        leastIs("row02;", 1, "00");
        leastIs("row20;", 1, "00");
        leastIs("row0;row3;", 1, "00");
        leastIs("row3;row0;", 1, "00");
        leastIs("row0033;", 2, "0000");
        leastIs("row3300;", 2, "0000");
        leastIs("row313;fix1 0;", 2, "010");
        leastIs("row03;row30;", 2, "0000");
        leastIs("row030;row000;row000;fix1 0;", 8, "232222111");
    }

    private static void leastWithoutAWay() {
        CHECK.sentence("NONE, if there is no way.");
        leastIsNone("row003;fix0 0;fix2 0;");
        leastIs("row002;fix0 0;fix2 0;", 1, "012");
        leastIs("row0003;fix0 0;fix3 0;", 2, "0123");
        leastIsNone("row000;row000;row003;fix0 0;fix2 2;");
        leastIs("row0000;row0000;row0000;row0003;fix0 0;fix3 3;", 8, "0000011101220123");
        leastIsNone("row0;row0;row3;fix0 0;fix0 2;");
        leastIs("row0;row0;row0;row3;fix0 0;fix0 3;", 2, "0123");
        leastIsNone("row0000;row0000;row0000;row0000;row0300;row0000;fix1 4;fix3 5;");
    }

    private static void paintedFromOneToAll() {
        CHECK.sentence("PAINTED: all CELLS of x to x2, y to y2 have a HEIGHT.");
        GroundEdges g = Check.told(LARGEST);
        due("one cell", g.paints(0, 0, 0, 0, 1), 1);
        due("the last cell", g.paints(3, 5, 3, 5, 1), 1);
        CHECK.map("two cells", g, "1000 0000 0000 0000 0000 0001");
        due("a row", g.paints(0, 2, 3, 2, 2), 4);
        due("a column", g.paints(2, 0, 2, 5, 2), 5);
        CHECK.map("a row and a column", g, "1020 0020 2222 0020 0020 0021");
        due("two and two", g.paints(1, 3, 2, 4, 1), 4);
        CHECK.map("two and two", g, "1020 0020 2222 0110 0110 0021");
        due("all", g.paints(0, 0, 3, 5, 3), 24);
        CHECK.map("all", g, "3333 3333 3333 3333 3333 3333");
    }

    private static void floodedOverSidesAlone() {
        CHECK.sentence("all to which one comes from it over sides (NEIGHBOURS 0, 2, 4, 6) by CELLS of its HEIGHT, have another HEIGHT.");
        GroundEdges g = Check.told("row0101;row1010;row0101;row1010;row0101;row1010;");
        due("no corners", g.floods(1, 2, 2), 1);
        CHECK.map("no corners", g, "0101 1010 0201 1010 0101 1010");
        Check.tell(g, "row 0001;row 1000;");
        due("no way round the row's end", g.floods(3, 0, 2), 1);
        due("no way round the row's start", g.floods(0, 1, 3), 1);
        CHECK.map("no way round", g, "0002 3000");
        Check.tell(g, "row 101;row 101;row 111;row 000;row 111;");
        due("up, down, left, right", g.floods(0, 0, 3), 7);
        CHECK.map("up, down, left, right", g, "303 303 333 000 111");
        Check.tell(g, "row 123;");
        due("what is higher and lower stays", g.floods(1, 0, 0), 1);
        CHECK.map("what is higher and lower stays", g, "103");
    }

    private static void floodedFromOneToAll() {
        CHECK.sentence("FLOODED, from a CELL: it, and all");
        GroundEdges g = Check.told("row2;");
        due("the one", g.floods(0, 0, 1), 1);
        Check.tell(g, LARGEST);
        due("all", g.floods(2, 3, 3), 24);
        CHECK.map("all", g, "3333 3333 3333 3333 3333 3333");
        String[] ways = {"row0000;row1110;row0000;row0111;row0000;row1110;", "row0100;row0101;row0101;row0101;row0101;row0001;"};
        due("a long way from its start", flooded(ways[0], 0, 0), 15);
        due("a long way from its end", flooded(ways[0], 3, 5), 15);
        due("a long way up and down", flooded(ways[1], 0, 0), 14);
        due("a long way up and down, from its end", flooded(ways[1], 3, 0), 14);
    }

    private static int flooded(String text, int x, int y) {
        return Check.told(text).floods(x, y, 2);
    }

    private static void fixedOnesToo() {
        CHECK.sentence("FIXED CELLS are PAINTED, FLOODED, too.");
        GroundEdges g = Check.told("row 00;row 00;fix 0 0;fix 1 1;");
        due("painted", g.paints(0, 0, 1, 1, 1), 4);
        CHECK.map("painted", g, "11 11");
        due("flooded from a fixed one", g.floods(1, 1, 2), 4);
        CHECK.map("flooded", g, "22 22");
        CHECK.fixed("still fixed", g, "10 01");
    }

    private static void settledAsByLeastChange() {
        CHECK.sentence("SETTLED: THE MAP becomes as by LEAST CHANGE.");
        String[] texts = {"row03;", "row313;fix1 0;", "row0003;fix0 0;fix3 0;", "row0000;row0000;row0300;row0000;row0000;row0000;fix1 2;"};
        String[] maps = {"00", "010", "0123", "1111 2221 2321 2221 1111 0000"};
        int[] changed = {1, 2, 2, 19};
        for (int i = 0; i < texts.length; i++) {
            GroundEdges g = Check.told(texts[i]);
            String fixed = Check.fixedCells(g);
            due("settles() of " + texts[i], g.settles(), changed[i]);
            CHECK.map("settled", g, maps[i]);
            CHECK.fixed("settled", g, fixed);
            due("none jars", g.jars(), 0);
            due("least is none", g.least(-1), 0);
        }
    }

    private static void eachThatIsDoneCanBeUndone() {
        CHECK.sentence("DONE: a text told; PAINTED, FLOODED, SETTLED; a CELL FIXED or not any more.");
        CHECK.sentence("UNDONE: the latest tells(), paints(), floods(), settles(), fixes() that was not refused: THE MAP, FIXED, BEYOND are as ahead of it");
        GroundEdges g = new GroundEdges();
        String[] states = new String[7];
        for (int i = 0; i < 7; i++) {
            states[i] = Check.map(g) + "|" + Check.fixedCells(g) + "|" + g.count(2);
            if (i < 6) {
                due("step " + i, step(g, i), new int[] {3, 1, 1, 2, 1, 2}[i]);
                due("can be undone", g.count(7), i + 1);
            }
        }
        for (int i = 5; i >= 0; i--) {
            due("undone", g.undo(), i);
            CHECK.same("undone to step " + i, Check.map(g) + "|" + Check.fixedCells(g) + "|" + g.count(2), states[i]);
        }
    }

    private static int step(GroundEdges g, int i) {
        switch (i) {
            case 0:
                return Check.tell(g, "row012;fix0 0;beyond2;");
            case 1:
                return g.paints(2, 0, 2, 0, 0);
            case 2:
                return g.floods(2, 0, 3);
            case 3:
                return g.fixes(2, 0, 1);
            case 4:
                return g.fixes(0, 0, 0);
            default:
                return g.settles();
        }
    }

    /** A map that is not as the last call that did something left it. */
    private static void doneBehindWhatIsUndone() {
        CHECK.sentence("THE MAP, FIXED, BEYOND are as ahead of it");
        for (int done = 1; done <= 4; done++) {
            for (int ahead = 0; ahead < 3; ahead++) {
                GroundEdges g = Check.told("row013;row333;fix2 1;beyond2;");
                g.keep(0);
                if (ahead < 2) {
                    Check.tell(g, "row0;");
                    due("the map again", ahead == 0 ? g.undo() : g.back(0), ahead == 0 ? 1 : 6);
                } else {
                    due("a fault", Check.tell(g, "row2222;fix0 0;beyond0"), -10 - 22);
                }
                doneOn(g, done);
                due("beyond", g.count(2), 2);
            }
        }
    }

    private static void doneOn(GroundEdges g, int done) {
        switch (done) {
            case 1:
                due("paints()", g.paints(0, 0, 0, 0, 1), 1);
                CHECK.map("painted", g, "113 333");
                break;
            case 2:
                due("floods()", g.floods(0, 0, 1), 1);
                CHECK.map("flooded", g, "113 333");
                break;
            case 3:
                due("settles()", g.settles(), 2);
                CHECK.map("settled", g, "223 333");
                break;
            default:
                due("fixes()", g.fixes(0, 0, 1), 2);
                CHECK.map("fixed", g, "013 333");
        }
        CHECK.fixed("behind it", g, done == 4 ? "100 001" : "000 001");
    }

    private static void refusedOnesAreNotUndone() {
        CHECK.sentence("that was not refused");
        GroundEdges g = Check.told("row12;");
        g.paints(0, 0, 0, 0, 2);
        due("paints() of that height", g.paints(0, 0, 1, 0, 2), STATE);
        due("paints() of no cell", g.paints(2, 0, 2, 0, 1), BAD);
        due("floods() of that height", g.floods(0, 0, 2), STATE);
        due("floods() of no cell", g.floods(0, 1, 1), BAD);
        due("fixes() as it is", g.fixes(0, 0, 0), STATE);
        due("fixes() of no cell", g.fixes(-1, 0, 1), BAD);
        due("settles() of none", g.settles(), STATE);
        due("tells() of nothing", g.tells(), -10);
        due("how many may be undone", g.count(7), 2);
        due("the paints() ahead of all these", g.undo(), 1);
        CHECK.map("undone", g, "12");
    }

    private static void sixAreKnown() {
        CHECK.sentence("(6 are known, older ones are lost)");
        for (int done = 0; done <= 20; done++) {
            GroundEdges g = new GroundEdges();
            for (int i = 1; i <= done; i++) {
                g.paints(0, 0, 0, 0, i % 4);
            }
            int known = Math.min(6, done);
            due("known of " + done, g.count(7), known);
            for (int i = 1; i <= known; i++) {
                due("more of " + done, g.undo(), known - i);
                due("height of " + done, g.cell(0, 0, 0), (done - i) % 4);
            }
            due("one more of " + done, g.undo(), STATE);
            due("height of " + done, g.cell(0, 0, 0), (done - known) % 4);
        }
    }

    // ---- 3

    private static void nothingIsChangedByAsking() {
        CHECK.sentence("(Nothing is changed.)");
        GroundEdges g = Check.told("row0312;row3021;fix1 1;beyond1;");
        String map = Check.map(g);
        g.sees(1, 46);
        g.sees(3, NONE);
        for (int i = 0; i < 3; i++) {
            g.which(0);
            g.which(1);
            g.look();
        }
        g.forget();
        CHECK.map("asked", g, map);
        CHECK.fixed("asked", g, "0000 0100");
        due("beyond", g.count(2), 1);
        due("undone", g.count(7), 1);
    }

    private static void sixAreSeen() {
        CHECK.sentence("SEEN (6 at most): an unknown CELL has in a LAYER a SQUARE (or NONE).");
        GroundEdges g = Check.told("row03;beyond0;");
        for (int i = 1; i <= 6; i++) {
            due("seen " + i, g.sees(1 + i % 3, i == 6 ? NONE : 0), i);
            due("how much", g.count(5), i);
            due("cells", g.which(0), i == 6 ? 0 : 1);
        }
        due("the seventh", g.sees(1, 0), FULL);
        due("the seventh, none", g.sees(1, NONE), FULL);
        due("how much", g.count(5), 6);
        due("cells", g.which(0), 0);
        g.forget();
        due("all may be", g.which(0), 2);
        due("one may be seen again", g.sees(2, NONE), 1);
        due("cells", g.which(0), 1);
        due("the first", g.which(1), 0);
    }

    private static void whichAsTheMapIsThen() {
        CHECK.sentence("WHICH: CELLS by which all that was SEEN is so (as THE MAP is when WHICH, LOOK are asked): how many; the first; NONE.");
        GroundEdges g = Check.told("row00;row00;beyond0;");
        g.sees(1, 0);
        due("none yet", g.which(0), 0);
        due("none yet", g.which(1), NONE);
        g.paints(1, 1, 1, 1, 1);
        due("one", g.which(0), 1);
        due("the last", g.which(1), 3);
        g.paints(0, 0, 0, 0, 1);
        due("two", g.which(0), 2);
        due("the first", g.which(1), 0);
        due("look() of two alike", g.look(), 1);
        g.undo();
        due("one again", g.which(0), 1);
        due("look() of one", g.look(), NONE);
        g.undo();
        due("none again", g.which(0), 0);
        due("look() of none", g.look(), NONE);
    }

    private static void whichOfNone() {
        CHECK.sentence("how many; the first; NONE.");
        GroundEdges g = Check.told(LARGEST);
        due("nothing seen: all", g.which(0), 24);
        due("nothing seen: the first", g.which(1), 0);
        g.sees(1, NONE);
        g.sees(2, NONE);
        g.sees(3, NONE);
        due("all", g.which(0), 24);
        g.sees(1, 46);
        due("what can't be", g.which(0), 0);
        due("what can't be", g.which(1), NONE);
    }

    private static void lookIs(String text, int want) {
        due("look() in " + text, Check.told(text).look(), want);
    }

    private static void lookForTheLeast() {
        CHECK.sentence("LOOK: the LAYER in which the greatest number of these that have one SQUARE (or NONE) is least, of several the lowest");
        lookIs("row0011;", 1);
        lookIs("row1122;", 2);
        lookIs("row2233;", 3);
        lookIs("row0022;", 1);
        lookIs("row1133;", 2);
        lookIs("row0;row3;", 1);
        lookIs(LARGEST, 1);
        lookIs("row1123;", 2);
        lookIs("row2223;", 3);
        lookIs("row0122;", 1);
        GroundEdges g = Check.told("row1020;beyond0;");
        g.sees(1, 0);
        due("look() of two with square 0", g.look(), 2);
        due("look() again", g.look(), 2);
        lookIs("row0012;", 1);
    }

    private static void lookOfOneAtMost() {
        CHECK.sentence("NONE (one can be at most).");
        lookIs("row0;", NONE);
        lookIs("row3;beyond1;", NONE);
        lookIs("row01;", 1);
        GroundEdges g = Check.told("row0123;row0123;beyond0;");
        g.sees(3, NONE);
        due("six may be", g.which(0), 6);
        g.sees(2, NONE);
        g.sees(1, NONE);
        due("two may be", g.which(0), 2);
        due("two alike", g.look(), 1);
        g.forget();
        g.sees(3, g.square(3, 0, 3, 1));
        due("one may be", g.which(0), 1);
        due("one", g.look(), NONE);
        g.sees(1, NONE);
        due("none may be", g.which(0), 0);
        due("none", g.look(), NONE);
    }

    private static void imagesKeepNothingElse() {
        CHECK.sentence("IMAGES 0, 1 keep THE MAP, FIXED, BEYOND; nothing else");
        GroundEdges g = Check.told("row01;row12;fix1 1;beyond3;");
        Check.type(g, "row");
        g.sees(1, 4);
        due("keep(0)", g.keep(0), 4);
        Check.tell(g, "row333;");
        due("keep(1)", g.keep(1), 3);
        g.forget();
        Check.type(g, "fix 0");
        due("back(0)", g.back(0), 4);
        CHECK.map("image 0", g, "01 12");
        CHECK.fixed("image 0", g, "00 01");
        due("beyond of image 0", g.count(2), 3);
        due("what was seen", g.count(5), 0);
        due("letters", g.count(6), 5);
        due("back(1)", g.back(1), 3);
        CHECK.map("image 1", g, "333");
        CHECK.fixed("image 1", g, "000");
        due("beyond of image 1", g.count(2), NONE);
        due("keep(2)", g.keep(2), BAD);
        due("back(2)", g.back(2), BAD);
        due("keep(-1)", g.keep(-1), BAD);
        due("back(-1)", g.back(-1), BAD);
    }

    private static void nothingUndoneBehindBack() {
        CHECK.sentence("(nothing can be UNDONE behind back())");
        GroundEdges g = Check.told("row01;");
        g.keep(0);
        g.paints(0, 0, 0, 0, 3);
        due("may be undone", g.count(7), 2);
        due("back(1), which none was kept in", g.back(1), STATE);
        due("may be undone still", g.count(7), 2);
        due("back(0)", g.back(0), 2);
        due("may be undone", g.count(7), 0);
        due("undo()", g.undo(), STATE);
        CHECK.map("as the image has it", g, "01");
        g.paints(1, 0, 1, 0, 0);
        due("what was done since", g.undo(), 0);
        CHECK.map("undone", g, "01");
        due("no more", g.undo(), STATE);
        g.keep(0);
        due("keep() leaves what may be undone", Check.tell(g, "row2;"), 1);
        g.keep(0);
        due("undo() behind keep()", g.undo(), 0);
        CHECK.map("undone", g, "01");
    }

    private static void aTextToldLeavesSeenAndImages() {
        CHECK.sentence("(A text told: what was SEEN, IMAGES stay.)");
        GroundEdges g = Check.told("row 10;beyond 0;");
        g.sees(1, 0);
        g.keep(1);
        Check.tell(g, "row000;row001;beyond 0;");
        due("what was seen", g.count(5), 1);
        due("the cell it is now", g.which(1), 5);
        due("the image", g.back(1), 2);
        CHECK.map("the image", g, "10");
        due("the cell it is in the image", g.which(1), 0);
    }
}
