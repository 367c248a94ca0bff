/** The document's sentences on THE TEXT, its TOKENS and FAULT: each boundary that they name has a method of its own. */
public final class TextTest {
    private static final int FULL = -3, NONE = -9;
    private static final Check CHECK = new Check();

    public static void main(String[] args) {
        lettersAtMost();
        blanksAnywhere();
        blanksAreNeededBetweenFigures();
        onlyLetter32IsABlank();
        eachItemIsEnded();
        figuresOfARow();
        theFirstRowTellsW();
        oneRowAtLeastSixAtMost();
        rowsAheadOfFixes();
        fixedAlready();
        beyondOnceAnywhere();
        wordsAreLettersAToZ();
        anyLetterBehindAnItem();
        anyLetterBehindFigures();
        anyLetterBehindAWord();
        faultOfTheFirstToken();
        faultOfARow();
        faultOfAFix();
        faultOfWhatIsBeyond();
        faultOfAWord();
        faultAtTheEnd();
        eachTextThatIsCutOff();
        CHECK.end();
    }

    private static void due(String call, int got, int want) {
        CHECK.due(call, got, want);
    }

    /** An item count is 0 or more; a fault is asked for as -10 less its place. */
    private static void told(String text, int want) {
        due("tells() of \"" + text + "\"", Check.tell(new GroundEdges(), text), want);
    }

    private static void fault(String text, int place) {
        told(text, -10 - place);
    }

    private static void lettersAtMost() {
        CHECK.sentence("THE TEXT is told letter by letter (120 letters at most)");
        told("row 0123;" + " ".repeat(111), 1);
        told(" ".repeat(111) + "row 0123;", 1);
        told("row 0" + " ".repeat(114) + ";", 1);
        told("row0;".repeat(6) + "fix0 0;".repeat(12) + "      ", 18);
        fault("row0;" + " ".repeat(114) + "!", 119);
        fault("row0;" + " ".repeat(114) + "r", 119);
        fault("row0" + " ".repeat(116), 120);
        fault(" ".repeat(120), 120);
        fault("r".repeat(120), 0);
        fault("row" + "0".repeat(117), 3);
        fault(";".repeat(120), 0);
        fault("row0;" + ";".repeat(115), 5);
        GroundEdges g = new GroundEdges();
        Check.type(g, "row 0" + " ".repeat(115));
        due("the 121st", g.type(';'), FULL);
        due("it is not of the text", g.tells(), -10 - 120);
    }

    private static void blanksAnywhere() {
        CHECK.sentence("blanks (32) may stand ahead of, between and behind TOKENS (needed between a word and what has figures never, between two TOKENS of figures always)");
        told("row0123;fix3 0;beyond2;", 3);
        told(" row 0123 ; fix 3 0 ; beyond 2 ; ", 3);
        told("   row   0123   ;   fix   3   0   ;   beyond   2   ;   ", 3);
        told("row0;row1;fix0 1;", 3);
        told("beyond0;row0;", 2);
        fault("ro w0;", 0);
        fault("row0;fi x0 0;", 5);
        fault("row0;bey ond0;", 5);
    }

    private static void blanksAreNeededBetweenFigures() {
        CHECK.sentence("between two TOKENS of figures always");
        told("row0;fix0 0;", 2);
        told("row0;fix0   0;", 2);
        fault("row0;fix00;", 8);
        fault("row0;fix 00;", 9);
        fault("row01 23;", 6);
        fault("row0 ;row0 0;", 11);
        fault("row0;beyond0 0;", 13);
        fault("row0;fix0 0 0;", 12);
    }

    private static void onlyLetter32IsABlank() {
        CHECK.sentence("blanks (32)");
        for (int letter : new int[] {0, 9, 10, 11, 12, 13, 28, 31, 33, 95, 133, 160, 255}) {
            String other = String.valueOf((char) letter);
            fault(other + "row0;", 0);
            fault("row" + other + "0;", 3);
            fault("row0" + other + ";", 4);
            fault("row0;" + other, 5);
            fault("row0;fix0" + other + "0;", 9);
        }
    }

    private static void eachItemIsEnded() {
        CHECK.sentence("It tells all of these by ITEMS, each ended by ;");
        fault("row0", 4);
        fault("row0 row0;", 5);
        fault("row0row0;", 4);
        fault("row0;fix0 0", 11);
        fault("row0;fix0 0 beyond0;", 12);
        fault("row0;beyond0", 12);
        fault("beyond0row0;", 7);
        fault(";", 0);
        fault(";row0;", 0);
        fault("row0;;", 5);
        fault("row0; ;", 6);
    }

    private static void figuresOfARow() {
        CHECK.sentence("row F (the next row of HEIGHTS: 1 to 4 figures 0 to 3");
        for (String figures : new String[] {"0", "3", "01", "32", "012", "333", "0123", "3210"}) {
            GroundEdges g = new GroundEdges();
            due("row " + figures, Check.tell(g, "row " + figures + ";"), 1);
            CHECK.map("row " + figures, g, figures);
        }
        fault("row;", 3);
        fault("row ;", 4);
        fault("row00000;", 3);
        fault("row 000000;", 4);
        for (int figure = 4; figure <= 9; figure++) {
            fault("row" + figure + ";", 3);
            fault("row" + figure + "000;", 3);
            fault("row000" + figure + ";", 3);
        }
    }

    private static void theFirstRowTellsW() {
        CHECK.sentence("the first row tells W");
        for (int w = 1; w <= 4; w++) {
            for (int other = 1; other <= 5; other++) {
                String text = "row" + "1".repeat(w) + ";row" + "2".repeat(other) + ";";
                if (other == w) {
                    told(text, 2);
                } else {
                    fault(text, 7 + w);
                }
            }
        }
        fault("row01;row01;row0;", 15);
    }

    private static void oneRowAtLeastSixAtMost() {
        CHECK.sentence("one row at least, 6 at most, all ahead of any fix");
        fault("", 0);
        fault("beyond0;", 8);
        for (int rows = 1; rows <= 6; rows++) {
            told("row3;".repeat(rows), rows);
        }
        fault("row3;".repeat(7), 30);
        fault("row3;".repeat(6) + "row", 30);
        fault("row3;".repeat(6) + "beyond1;row3;", 38);
        fault("row3333;".repeat(7), 48);
        told("row3;".repeat(6) + "beyond1;fix0 5;", 8);
    }

    private static void rowsAheadOfFixes() {
        CHECK.sentence("all ahead of any fix");
        fault("row0;fix0 0;row0;", 12);
        fault("row0;fix0 0;beyond1;row0;", 20);
        fault("row0;fix0 0;fix0 0;row9;", 19);
        fault("row0;row0;fix0 1;row", 17);
        told("row0;beyond1;row0;fix0 1;", 4);
    }

    private static void fixedAlready() {
        CHECK.sentence("fix X Y (a CELL of THE MAP; perhaps one that is FIXED already)");
        GroundEdges g = new GroundEdges();
        due("one cell twice", Check.tell(g, "row00;fix1 0;fix1 0;"), 3);
        CHECK.fixed("one cell twice", g, "01");
        due("how many", g.count(3), 1);
        due("the four corners", Check.tell(g, "row0000;".repeat(6) + "fix0 0;fix3 0;fix0 5;fix3 5;"), 10);
        CHECK.fixed("the four corners", g, "1001 0000 0000 0000 0000 1001");
    }

    private static void beyondOnceAnywhere() {
        CHECK.sentence("beyond T (0 to 3; once at most, anywhere)");
        String[] places = {"beyond2;row0;row0;fix0 0;fix0 1;", "row0;beyond2;row0;fix0 0;fix0 1;", "row0;row0;beyond2;fix0 0;fix0 1;",
            "row0;row0;fix0 0;beyond2;fix0 1;", "row0;row0;fix0 0;fix0 1;beyond2;"};
        for (String text : places) {
            GroundEdges g = new GroundEdges();
            due("tells() of " + text, Check.tell(g, text), 5);
            due("beyond of " + text, g.count(2), 2);
            CHECK.fixed("fixed of " + text, g, "1 1");
            int again = text.length();
            fault(text + "beyond2;", again);
        }
        for (int t = 0; t <= 3; t++) {
            told("row0;beyond" + t + ";", 2);
        }
        GroundEdges g = new GroundEdges();
        Check.tell(g, "row0;");
        due("not told", g.count(2), NONE);
    }

    private static void wordsAreLettersAToZ() {
        CHECK.sentence("TOKENS are words (rows of letters a to z: row, fix, beyond), rows of figures, and ; .");
        for (String word : new String[] {"Row", "rOw", "roW", "ROW"}) {
            fault(word + "0;", 0);
        }
        fault("row0;Fix0 0;", 5);
        fault("row0;fiX0 0;", 5);
        fault("row0;BEYOND0;", 5);
        fault("row0,", 4);
        fault("row0:", 4);
        fault("row-0;", 3);
        fault("row+0;", 3);
        fault("row0;fix0,0;", 9);
    }

    private static boolean isLetter(int letter) {
        return letter >= 97 && letter <= 122;
    }

    private static boolean isFigure(int letter) {
        return letter >= 48 && letter <= 57;
    }

    private static void anyLetterBehindAnItem() {
        CHECK.sentence("of a word that is none of these, of any other letter, that TOKEN's");
        for (int letter = 0; letter <= 255; letter++) {
            String text = "row0; " + (char) letter;
            told(text, letter == 32 ? 1 : -10 - 6);
        }
    }

    private static void anyLetterBehindFigures() {
        CHECK.sentence("rows of figures, and ; .");
        for (int letter = 0; letter <= 255; letter++) {
            String text = "row 0" + (char) letter + ";";
            if (letter == 32 || letter >= 48 && letter <= 51) {
                told(text, 1);
            } else if (isFigure(letter)) {
                fault(text, 4);
            } else {
                fault(text, letter == 59 ? 6 : 5);
            }
        }
    }

    private static void anyLetterBehindAWord() {
        CHECK.sentence("words (rows of letters a to z: row, fix, beyond)");
        for (int letter = 0; letter <= 255; letter++) {
            String text = " row" + (char) letter + "1;";
            if (letter == 32 || letter >= 48 && letter <= 51) {
                told(text, 1);
            } else {
                fault(text, isLetter(letter) ? 1 : 4);
            }
            String cut = " ro" + (char) letter + "1;";
            told(cut, letter == 119 ? 1 : -10 - 1);
        }
    }

    private static void faultOfTheFirstToken() {
        CHECK.sentence("FAULT: the place of the first letter of the first TOKEN that can't stand there");
        fault("row4;fix9 9;!", 3);
        fault("rox0;row4;", 0);
        fault("row0;row00;!", 8);
        fault("row0 ! row4;", 5);
        fault("row0;beyond9", 11);
        fault("row0;fix1 9;", 8);
        fault("row0;fix0 9!", 10);
        fault("row0;!?", 5);
        fault("abc def", 0);
        fault("  4", 2);
        fault("row0;  0123;", 7);
    }

    private static void faultOfARow() {
        CHECK.sentence("(a seventh row, a row behind a fix, a row of other length than the first, with a figure above 3, a fix ahead of any row");
        fault("row0;row0;row0;row0;row0;row0; row0;", 31);
        fault("row0;fix0 0; row0;", 13);
        fault("row00;row 0;", 10);
        fault("row00;row 000;", 10);
        fault("row00;row 04;", 10);
        fault("row00;row 40;", 10);
        fault("fix0 0;", 0);
        fault(" fix", 1);
        fault("beyond0;fix0 0;row0;", 8);
    }

    private static void faultOfAFix() {
        CHECK.sentence("an X, Y that has not just one figure or is not of THE MAP as it is told so far");
        for (int w = 1; w <= 4; w++) {
            String row = "row" + "0".repeat(w) + ";";
            for (int x = 0; x <= 9; x++) {
                told(row + "fix" + x + " 0;", x < w ? 2 : -10 - row.length() - 3);
            }
        }
        for (int h = 1; h <= 6; h++) {
            String rows = "row00;".repeat(h);
            for (int y = 0; y <= 9; y++) {
                told(rows + "fix1 " + y + ";", y < h ? h + 1 : -10 - rows.length() - 5);
            }
        }
        fault("row00;fix;", 9);
        fault("row00;fix0;", 10);
        fault("row00;fix 00 0;", 10);
        fault("row00;fix 01 0;", 10);
        fault("row00;fix 10 0;", 10);
        fault("row00;fix 0 00;", 12);
        fault("row00;fix 0 000000000000000000000;", 12);
        fault("row00;fix x 0;", 10);
        fault("row00;fix 0 y;", 12);
        fault("row00;fix row0;", 10);
    }

    private static void faultOfWhatIsBeyond() {
        CHECK.sentence("beyond again, a T that has not just one figure or is above 3, too)");
        fault("beyond0; beyond0;row0;", 9);
        fault("row0;beyond0;beyond", 13);
        for (int t = 4; t <= 9; t++) {
            fault("row0;beyond" + t + ";", 11);
        }
        for (String figures : new String[] {"00", "01", "03", "10", "33", "000", "4294967296"}) {
            fault("row0;beyond" + figures + ";", 11);
        }
        fault("row0;beyond;", 11);
        fault("row0;beyond none;", 12);
    }

    private static void faultOfAWord() {
        CHECK.sentence("of a word that is none of these");
        for (String word : new String[] {"r", "ro", "ow", "rows", "roww", "rrow", "rowrow", "rowfix", "low", "raw", "rob", "f", "fi", "ix", "fixx", "ffix", "mix", "fox", "fit", "beyon", "eyond",
            "beyonds", "seyond", "bexond", "beyont", "bbeyond", "beyondrow", "a", "z", "end", "abcdefghijklmnopqrstuvwxyz"}) {
            fault(word, 0);
            fault(word + "0;", 0);
            fault("row0; " + word + " 0;", 6);
            fault("row " + word + ";", 4);
        }
    }

    private static void faultAtTheEnd() {
        CHECK.sentence("the text's length, if it ends too early (also without a row).");
        fault("", 0);
        fault(" ", 1);
        fault("          ", 10);
        fault("beyond1;", 8);
        fault("beyond1; ", 9);
        fault("row", 3);
        fault("row ", 4);
        fault("row0", 4);
        fault("row0 ", 5);
        fault("row0;row", 8);
        fault("row0;fix", 8);
        fault("row0;fix0", 9);
        fault("row0;fix0 ", 10);
        fault("row0;fix0 0", 11);
        fault("row0;beyond", 11);
        fault("row0;beyond3", 12);
    }

    /** A text cut off at each place: a word in two is none, half a row has another length, an item without its end is too early. */
    private static void eachTextThatIsCutOff() {
        CHECK.sentence("if it ends too early");
        String text = " row 01;row23;fix 1 0 ;beyond 2;";
        int[][] inTwo = {{1, 4}, {8, 11}, {11, 13}, {14, 17}, {23, 29}};
        int[] ends = {8, 14, 23, 32};
        for (int length = 0; length <= text.length(); length++) {
            int want = -10 - length;
            for (int[] token : inTwo) {
                want = length > token[0] && length < token[1] ? -10 - token[0] : want;
            }
            for (int items = 1; items <= 4; items++) {
                want = length == ends[items - 1] ? items : want;
            }
            told(text.substring(0, length), want);
        }
    }
}
