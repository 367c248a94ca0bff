/** The promises one by one, with answers worked out by hand from the document. */
public final class PromisesTest {
    private static final int BAD = -1, STATE = -2, FULL = -3, NONE = -9;
    private static final int LOW = Integer.MIN_VALUE, HIGH = Integer.MAX_VALUE;
    private static final Check CHECK = new Check();

    public static void main(String[] args) {
        newObject();
        type();
        clear();
        tells();
        tellsAnew();
        paints();
        floods();
        settles();
        fixes();
        undo();
        cell();
        masksOfAllKinds();
        squaresAtTheBorder();
        squareRefuses();
        kind();
        jars();
        least();
        leastOfSeveral();
        leastOfEachMapAnew();
        sees();
        forget();
        which();
        look();
        keep();
        back();
        count();
        CHECK.end();
    }

    private static void due(String call, int got, int want) {
        CHECK.due(call, got, want);
    }

    private static void newObject() {
        CHECK.part("promise 1");
        GroundEdges g = new GroundEdges();
        int[] counts = {1, 1, NONE, 0, 0, 0, 0, 0};
        for (int what = 0; what < counts.length; what++) {
            due("count(" + what + ")", g.count(what), counts[what]);
        }
        due("cell(0, 0, 0)", g.cell(0, 0, 0), 0);
        due("cell(0, 0, 1)", g.cell(0, 0, 1), 0);
        due("cell(1, 0, 0)", g.cell(1, 0, 0), BAD);
        due("cell(0, 1, 0)", g.cell(0, 1, 0), BAD);
        due("undo()", g.undo(), STATE);
        due("back(0)", g.back(0), STATE);
        due("back(1)", g.back(1), STATE);
        due("which(0)", g.which(0), 1);
        due("which(1)", g.which(1), 0);
        due("look()", g.look(), NONE);
        due("kind(0, 0)", g.kind(0, 0), 1);
        due("kind(0, 1)", g.kind(0, 1), NONE);
        due("least(-1)", g.least(-1), 0);
        due("least(0)", g.least(0), 0);
        due("BAD", GroundEdges.BAD, -1);
        due("STATE", GroundEdges.STATE, -2);
        due("FULL", GroundEdges.FULL, -3);
        due("NONE", GroundEdges.NONE, -9);
    }

    private static void type() {
        CHECK.part("promise 2");
        GroundEdges g = new GroundEdges();
        for (int letter : new int[] {-1, 256, LOW, HIGH}) {
            due("type(" + letter + ")", g.type(letter), BAD);
        }
        due("count(6)", g.count(6), 0);
        due("type(0)", g.type(0), 1);
        due("type(255)", g.type(255), 2);
        for (int i = 3; i <= 120; i++) {
            due("type(32)", g.type(32), i);
        }
        due("the 121st", g.type(32), FULL);
        due("the 121st, no letter", g.type(256), BAD);
        due("count(6)", g.count(6), 120);
        g.clear();
        due("type(59) behind clear()", g.type(59), 1);
    }

    private static void clear() {
        CHECK.part("promise 3");
        GroundEdges g = Check.told("row 12;");
        due("clear() of none", g.clear(), 0);
        Check.type(g, "row 0;");
        due("clear()", g.clear(), 6);
        due("clear() again", g.clear(), 0);
        due("count(6)", g.count(6), 0);
        due("tells() of none", g.tells(), -10);
        CHECK.map("behind clear()", g, "12");
        due("count(7)", g.count(7), 1);
    }

    private static void told(String text, int want) {
        GroundEdges g = Check.told("row 12;fix 1 0;beyond 3;");
        Check.type(g, text);
        due("tells() of \"" + text + "\"", g.tells(), want);
        if (want < 0) {
            due("letters that stay of \"" + text + "\"", g.count(6), text.length());
            CHECK.map("behind \"" + text + "\"", g, "12");
            CHECK.fixed("behind \"" + text + "\"", g, "01");
            due("beyond behind \"" + text + "\"", g.count(2), 3);
            due("undone behind \"" + text + "\"", g.count(7), 1);
        } else {
            due("letters behind \"" + text + "\"", g.count(6), 0);
            due("undone behind \"" + text + "\"", g.count(7), 2);
        }
    }

    private static void fault(String text, int place) {
        told(text, -10 - place);
    }

    private static void tells() {
        CHECK.part("promise 4");
        told("row0;", 1);
        told("  row  0123  ;  ", 1);
        told("row0;row1;row2;row3;row0;row1;", 6);
        told("row 0;beyond 0;fix 0 0;", 3);
        told("row 0;fix 0 0;beyond 3;fix 0 0;", 4);
        told("beyond2;row 01;row 23;fix1 1;", 4);
        told("row 0;fix 0 0;fix 0 0;fix 0 0;fix 0 0;fix 0 0;fix 0 0;", 7);
        fault("", 0);
        fault("   ", 3);
        fault("beyond 1;", 9);
        fault("beyond 1;  ", 11);
        fault("row 0", 5);
        fault("row 0  ", 7);
        fault("row", 3);
        fault("row 0;fix", 9);
        fault("row 0;fix 0", 11);
        fault("row 0;fix 0 0", 13);
        fault("row 0;beyond", 12);
        fault("row 0;beyond 2 ", 15);
        fault(";", 0);
        fault("row 0;;", 6);
        fault("0", 0);
        fault(" ro", 1);
        fault("rows 0;", 0);
        fault("rowrow 0;", 0);
        fault("rowa 0;", 0);
        fault("rowz 0;", 0);
        for (String word : new String[] {"ro", "ow", "low", "raw", "rob", "wor"}) {
            fault(word + " 0;", 0);
            fault("row 0;" + word + " 0;", 6);
        }
        for (String word : new String[] {"fi", "mix", "fox", "fit", "fixx"}) {
            fault("row 0;" + word + " 0 0;", 6);
        }
        for (String word : new String[] {"beyon", "eyond", "seyond", "bexond", "beyont", "beyondd"}) {
            fault("row 0;" + word + " 0;", 6);
        }
        fault("row row 0;", 4);
        fault("row ;", 4);
        fault("row x;", 4);
        fault("row 0 1;", 6);
        fault("row 0 x;", 6);
        fault("row 0row", 5);
        fault("row 01234;", 4);
        fault("row 01230;", 4);
        fault("row 4;", 4);
        fault("row 0129;", 4);
        fault("row 01;row 012;", 11);
        fault("row 01;row 1;", 11);
        fault("row 01;row 04;", 11);
        fault("row0;row0;row0;row0;row0;row0;row0;", 30);
        fault("row 0;fix 0 0;row 0;", 14);
        fault("fix 0 0;row 0;", 0);
        fault("beyond 1;fix 0 0;", 9);
        fault("row 01;fix 2 0;", 11);
        fault("row 01;fix 1 1;", 13);
        fault("row 01;row 01;fix 1 2;", 20);
        fault("row 01;fix 00 0;", 11);
        fault("row 01;fix00;", 10);
        fault("row 01;fix 0 00;", 13);
        fault("row 01;fix 0;", 12);
        fault("row 01;fix ;", 11);
        fault("row 01;fix x 0;", 11);
        fault("row 01;fix 0 x;", 13);
        fault("row 01;fix 0 0 0;", 15);
        fault("beyond 4;row 0;", 7);
        fault("beyond 9;row 0;", 7);
        fault("beyond 00;row 0;", 7);
        fault("beyond ;row 0;", 7);
        fault("beyond x;row 0;", 7);
        fault("beyond 1 1;row 0;", 9);
        fault("beyond 1;beyond 1;row 0;", 9);
        fault("beyond 1;row 0;fix 0 0;beyond 1;", 23);
        fault("beyondx;row 0;", 0);
        fault("Row 0;", 0);
        fault("row 0,", 5);
        fault("row -1;", 4);
        fault("row\t0;", 3);
        fault("row 0;" + (char) 0, 6);
        fault("row 0;" + (char) 255, 6);
        fault("row 0/", 5);
        fault("row :;", 4);
        fault("row 0;`", 6);
        fault("row 0;{", 6);
    }

    private static void tellsAnew() {
        CHECK.part("promise 4, what is told");
        GroundEdges g = new GroundEdges();
        due("tells()", Check.tell(g, "row 0123; row 3210; row 1111; fix 3 0; fix 0 2; beyond 2;"), 6);
        CHECK.map("told", g, "0123 3210 1111");
        CHECK.fixed("told", g, "0001 0000 1000");
        due("count(0)", g.count(0), 4);
        due("count(1)", g.count(1), 3);
        due("count(2)", g.count(2), 2);
        g.sees(1, 46);
        g.keep(1);
        due("tells()", Check.tell(g, "row 12;"), 1);
        CHECK.map("told anew", g, "12");
        CHECK.fixed("told anew", g, "00");
        due("count(2)", g.count(2), NONE);
        due("count(5)", g.count(5), 1);
        due("count(7)", g.count(7), 2);
        due("tells() of the same", Check.tell(g, "row 12;"), 1);
        due("count(7)", g.count(7), 3);
        due("back(1)", g.back(1), 12);
        CHECK.map("back", g, "0123 3210 1111");
    }

    private static void paints() {
        CHECK.part("promise 5");
        GroundEdges g = Check.told("row 000;row 111;row 000;fix 0 0;");
        int[][] bad = {{-1, 0, 0, 0, 1}, {0, -1, 0, 0, 1}, {3, 0, 3, 0, 1}, {0, 3, 0, 3, 1}, {0, 0, 3, 0, 1}, {0, 0, 0, 3, 1},
            {1, 0, 0, 0, 1}, {0, 1, 0, 0, 1}, {0, 0, 0, 0, -1}, {0, 0, 0, 0, 4}, {LOW, 0, 0, 0, 1}, {0, 0, HIGH, 0, 1},
            {0, LOW, 0, 0, 1}, {0, 0, 0, HIGH, 1}, {0, 0, 0, 0, LOW}, {0, 0, 0, 0, HIGH}, {0, 0, -1, 0, 1}, {0, 0, 0, -1, 1}};
        for (int[] a : bad) {
            due("paints" + java.util.Arrays.toString(a), g.paints(a[0], a[1], a[2], a[3], a[4]), BAD);
        }
        due("paints(0, 1, 2, 1, 1)", g.paints(0, 1, 2, 1, 1), STATE);
        due("count(7)", g.count(7), 1);
        CHECK.map("refused", g, "000 111 000");
        due("paints(0, 0, 1, 1, 1)", g.paints(0, 0, 1, 1, 1), 2);
        CHECK.map("painted", g, "110 111 000");
        CHECK.fixed("painted", g, "100 000 000");
        due("count(7)", g.count(7), 2);
        due("paints(2, 0, 2, 2, 3)", g.paints(2, 0, 2, 2, 3), 3);
        CHECK.map("painted", g, "113 113 003");
        due("paints(0, 0, 2, 2, 3)", g.paints(0, 0, 2, 2, 3), 6);
        CHECK.map("painted", g, "333 333 333");
        due("paints(1, 1, 1, 1, 0)", g.paints(1, 1, 1, 1, 0), 1);
        CHECK.map("painted", g, "333 303 333");
    }

    private static void floods() {
        CHECK.part("promise 6");
        GroundEdges g = Check.told("row 0010;row 1010;row 1100;row 0011;fix 3 0;");
        int[][] bad = {{-1, 0, 1}, {0, -1, 1}, {4, 0, 1}, {0, 4, 1}, {0, 0, -1}, {0, 0, 4}, {LOW, 0, 1}, {0, HIGH, 1}, {0, 0, LOW}, {0, 0, HIGH}};
        for (int[] a : bad) {
            due("floods" + java.util.Arrays.toString(a), g.floods(a[0], a[1], a[2]), BAD);
        }
        due("floods(0, 0, 0)", g.floods(0, 0, 0), STATE);
        due("count(7)", g.count(7), 1);
        due("floods(3, 1, 2)", g.floods(3, 1, 2), 4);
        CHECK.map("flooded", g, "0012 1012 1122 0011");
        CHECK.fixed("flooded", g, "0001 0000 0000 0000");
        due("floods(0, 0, 3)", g.floods(0, 0, 3), 3);
        CHECK.map("flooded", g, "3312 1312 1122 0011");
        due("floods(3, 3, 2)", g.floods(3, 3, 2), 2);
        CHECK.map("flooded", g, "3312 1312 1122 0022");
        due("floods(2, 3, 0)", g.floods(2, 3, 0), 6);
        CHECK.map("flooded", g, "3310 1310 1100 0000");
        due("count(7)", g.count(7), 5);
        floodedFarAndNotOverTheBorder();
    }

    private static void floodedFarAndNotOverTheBorder() {
        GroundEdges g = Check.told("row 1110;row 0000;row 0111;row 0000;row 1110;row 0000;");
        due("floods(3, 0, 2)", g.floods(3, 0, 2), 15);
        CHECK.map("along a long way", g, "1112 2222 2111 2222 1112 2222");
        GroundEdges snake = Check.told("row 0000;row 1110;row 0000;row 0111;row 0000;row 1110;");
        due("floods(0, 0, 3)", snake.floods(0, 0, 3), 15);
        CHECK.map("along a long way", snake, "3333 1113 3333 3111 3333 1113");
        GroundEdges edges = Check.told("row 001;row 100;row 001;");
        due("floods(2, 0, 3)", edges.floods(2, 0, 3), 1);
        CHECK.map("a row's end does not touch the next one's start", edges, "003 100 001");
        due("floods(0, 1, 2)", edges.floods(0, 1, 2), 1);
        CHECK.map("a row's start does not touch the last one's end", edges, "003 200 001");
        GroundEdges column = Check.told("row0;row0;row1;row0;");
        due("floods(0, 1, 3)", column.floods(0, 1, 3), 2);
        CHECK.map("one column", column, "3 3 1 0");
    }

    private static void settles() {
        CHECK.part("promise 7");
        GroundEdges g = Check.told("row 012;");
        due("settles() of none that jars", g.settles(), STATE);
        due("count(7)", g.count(7), 1);
        g = Check.told("row 03;fix 0 0;fix 1 0;beyond 1;");
        due("settles() without a way", g.settles(), STATE);
        CHECK.map("no way", g, "03");
        due("count(7)", g.count(7), 1);
        due("fixes(0, 0, 0)", g.fixes(0, 0, 0), 1);
        due("settles()", g.settles(), 1);
        CHECK.map("settled", g, "23");
        CHECK.fixed("settled", g, "01");
        due("count(2)", g.count(2), 1);
        due("count(7)", g.count(7), 3);
        due("settles() again", g.settles(), STATE);
        due("undo()", g.undo(), 2);
        CHECK.map("undone", g, "03");
        g = Check.told("row 0003;fix 0 0;fix 3 0;");
        due("settles()", g.settles(), 2);
        CHECK.map("a slope", g, "0123");
    }

    private static void fixes() {
        CHECK.part("promise 8");
        GroundEdges g = Check.told("row 00;row 00;row 00;");
        int[][] bad = {{-1, 0, 1}, {0, -1, 1}, {2, 0, 1}, {0, 3, 1}, {0, 0, -1}, {0, 0, 2}, {LOW, 0, 1}, {0, HIGH, 1}, {0, 0, LOW}, {0, 0, HIGH}};
        for (int[] a : bad) {
            due("fixes" + java.util.Arrays.toString(a), g.fixes(a[0], a[1], a[2]), BAD);
        }
        due("fixes(0, 0, 0)", g.fixes(0, 0, 0), STATE);
        due("fixes(0, 0, 1)", g.fixes(0, 0, 1), 1);
        due("fixes(0, 0, 1) again", g.fixes(0, 0, 1), STATE);
        due("fixes(1, 2, 1)", g.fixes(1, 2, 1), 2);
        due("fixes(1, 0, 1)", g.fixes(1, 0, 1), 3);
        CHECK.fixed("fixed", g, "11 00 01");
        due("fixes(0, 0, 0)", g.fixes(0, 0, 0), 2);
        CHECK.fixed("not fixed any more", g, "01 00 01");
        due("count(3)", g.count(3), 2);
        due("count(7)", g.count(7), 5);
        due("undo()", g.undo(), 4);
        CHECK.fixed("undone", g, "11 00 01");
    }

    private static void undo() {
        CHECK.part("promise 9");
        GroundEdges g = new GroundEdges();
        due("undo()", g.undo(), STATE);
        Check.tell(g, "row 03;beyond 2;fix 0 0;");
        g.paints(1, 0, 1, 0, 2);
        g.floods(1, 0, 3);
        g.fixes(0, 0, 0);
        g.settles();
        due("count(7)", g.count(7), 5);
        CHECK.map("settled", g, "00");
        due("undo() of settles()", g.undo(), 4);
        CHECK.map("undone", g, "03");
        CHECK.fixed("undone", g, "00");
        due("undo() of fixes()", g.undo(), 3);
        CHECK.fixed("undone", g, "10");
        due("undo() of floods()", g.undo(), 2);
        CHECK.map("undone", g, "02");
        due("undo() of paints()", g.undo(), 1);
        CHECK.map("undone", g, "03");
        due("count(2)", g.count(2), 2);
        due("undo() of tells()", g.undo(), 0);
        CHECK.map("undone", g, "0");
        due("count(2)", g.count(2), NONE);
        due("count(3)", g.count(3), 0);
        due("undo() of none", g.undo(), STATE);
        undoSixAtMost();
        undoLeavesTheRest();
    }

    private static void undoSixAtMost() {
        GroundEdges g = Check.told("row 0000;");
        for (int i = 0; i < 7; i++) {
            g.paints(i % 4, 0, i % 4, 0, 1 + i / 4);
        }
        CHECK.map("painted", g, "2221");
        due("count(7)", g.count(7), 6);
        String[] maps = {"2211", "2111", "1111", "1110", "1100", "1000"};
        for (int i = 0; i < 6; i++) {
            due("undo() " + i, g.undo(), 5 - i);
            CHECK.map("undone " + i, g, maps[i]);
        }
        due("the seventh", g.undo(), STATE);
        CHECK.map("the seventh", g, "1000");
        due("paints() behind", g.paints(3, 0, 3, 0, 3), 1);
        due("undo()", g.undo(), 0);
        CHECK.map("undone", g, "1000");
    }

    private static void undoLeavesTheRest() {
        GroundEdges g = Check.told("row 01;");
        Check.type(g, "fix");
        g.sees(2, 3);
        g.keep(0);
        g.paints(0, 0, 1, 0, 3);
        g.undo();
        g.undo();
        due("count(5)", g.count(5), 1);
        due("count(6)", g.count(6), 3);
        due("back(0)", g.back(0), 2);
        CHECK.map("back", g, "01");
    }

    private static void cell() {
        CHECK.part("promise 10");
        GroundEdges g = Check.told("row 012;row 321;fix 2 1;");
        int[][] bad = {{-1, 0, 0}, {3, 0, 0}, {0, -1, 0}, {0, 2, 0}, {0, 0, -1}, {0, 0, 3}, {LOW, 0, 0}, {0, HIGH, 1}, {0, 0, LOW}, {0, 0, HIGH}};
        for (int[] a : bad) {
            due("cell" + java.util.Arrays.toString(a), g.cell(a[0], a[1], a[2]), BAD);
        }
        CHECK.map("heights", g, "012 321");
        CHECK.fixed("fixed", g, "000 001");
        GroundEdges flat = Check.told("row 100;row 000;row 100;");
        int[] kinds = {0, 1, 1, 1, 1, 1, 2, 1, 1};
        for (int n = 0; n < kinds.length; n++) {
            due("cell(" + n % 3 + ", " + n / 3 + ", 2)", flat.cell(n % 3, n / 3, 2), kinds[n]);
        }
    }

    /** A cell with all that can be around it: the 47 numbers, and which of them each is. */
    private static void masksOfAllKinds() {
        CHECK.part("promise 11, all that can be around");
        int[] numbers = new int[256];
        int squares = 0;
        for (int m = 0; m < 256; m++) {
            numbers[m] = squares;
            squares += stands(m) ? 1 : 0;
        }
        due("how many numbers", squares, 47);
        String around = "1 2 5 8 7 6 3 0";
        for (int m = 0; m < 256; m++) {
            char[] map = "row 000;row 010;row 000;".toCharArray();
            for (int k = 0; k < 8; k++) {
                int n = around.charAt(2 * k) - '0';
                map[8 * (n / 3) + 4 + n % 3] = (m >> k & 1) == 1 ? '1' : '0';
            }
            int mask = m;
            for (int k = 1; k < 8; k += 2) {
                mask = (m >> k - 1 & 1) == 1 && (m >> (k + 1) % 8 & 1) == 1 ? mask : mask & 255 - (1 << k);
            }
            GroundEdges g = Check.told(new String(map));
            due("mask of " + new String(map), g.square(1, 1, 1, 0), mask);
            due("square of " + new String(map), g.square(1, 1, 1, 1), numbers[mask]);
            due("layer 2 of " + new String(map), g.square(1, 1, 2, 1), NONE);
        }
    }

    private static boolean stands(int m) {
        for (int k = 1; k < 8; k += 2) {
            if ((m >> k & 1) == 1 && ((m >> k - 1 & 1) == 0 || (m >> (k + 1) % 8 & 1) == 0)) {
                return false;
            }
        }
        return true;
    }

    private static void squaresAtTheBorder() {
        CHECK.part("promise 11, the border");
        for (int beyond = 0; beyond <= 3; beyond++) {
            GroundEdges g = Check.told("row 2;beyond " + beyond + ";");
            for (int layer = 1; layer <= 3; layer++) {
                due("mask, beyond " + beyond, g.square(0, 0, layer, 0), beyond >= layer ? 255 : 0);
                due("square, beyond " + beyond, g.square(0, 0, layer, 1), layer == 3 ? NONE : beyond >= layer ? 46 : 0);
            }
        }
        GroundEdges alone = Check.told("row 2;");
        due("mask alone", alone.square(0, 0, 2, 0), 255);
        due("mask alone, layer 3", alone.square(0, 0, 3, 0), 0);
        GroundEdges g = Check.told("row 10;row 01;");
        due("(0, 0): up, left, up and left", g.square(0, 0, 1, 0), 1 + 64 + 128);
        due("(0, 0)", g.square(0, 0, 1, 1), 34);
        due("(1, 0): down, left, and no corner", g.square(1, 0, 1, 0), 16 + 64);
        due("(1, 0)", g.square(1, 0, 1, 1), NONE);
        due("(1, 1): right, down, and the corner", g.square(1, 1, 1, 0), 4 + 8 + 16);
        due("(1, 1)", g.square(1, 1, 1, 1), 10);
        GroundEdges sea = Check.told("row 10;row 01;beyond 1;");
        due("(0, 0) in the sea", sea.square(0, 0, 1, 0), 1 + 64 + 128);
        due("(1, 0) in the sea", sea.square(1, 0, 1, 0), 255 - 32);
    }

    private static void squareRefuses() {
        CHECK.part("promise 11, refused");
        GroundEdges g = Check.told("row 33;row 33;row 33;");
        int[][] bad = {{-1, 0, 1, 0}, {2, 0, 1, 0}, {0, -1, 1, 0}, {0, 3, 1, 0}, {0, 0, 0, 0}, {0, 0, 4, 0}, {0, 0, 1, -1}, {0, 0, 1, 2},
            {LOW, 0, 1, 0}, {0, HIGH, 1, 0}, {0, 0, LOW, 0}, {0, 0, HIGH, 0}, {0, 0, 1, LOW}, {0, 0, 1, HIGH}};
        for (int[] a : bad) {
            due("square" + java.util.Arrays.toString(a), g.square(a[0], a[1], a[2], a[3]), BAD);
        }
        due("square(1, 2, 3, 1)", g.square(1, 2, 3, 1), 46);
    }

    private static void kind() {
        CHECK.part("promise 12");
        GroundEdges g = Check.told("row 0123;row 0123;");
        due("kind(-1, 0)", g.kind(-1, 0), 4);
        int[][] kinds = {{2, NONE, NONE, NONE}, {2, 12, NONE, NONE}, {2, 46, 12, NONE}, {2, 46, 46, 12}};
        for (int k = 0; k < 4; k++) {
            for (int what = 0; what < 4; what++) {
                due("kind(" + k + ", " + what + ")", g.kind(k, what), kinds[k][what]);
            }
        }
        int[][] bad = {{-1, 1}, {-1, 3}, {-1, -1}, {-2, 0}, {4, 0}, {0, -1}, {0, 4}, {LOW, 0}, {HIGH, 0}, {0, LOW}, {0, HIGH}};
        for (int[] a : bad) {
            due("kind" + java.util.Arrays.toString(a), g.kind(a[0], a[1]), -5);
        }
        GroundEdges flat = Check.told("row 2222;row 2222;row 2222;row 2222;row 2222;row 2222;");
        due("kind(-1, 0)", flat.kind(-1, 0), 1);
        due("kind(0, 0)", flat.kind(0, 0), 24);
        due("kind(1, 0)", flat.kind(1, 0), -5);
    }

    private static void jars() {
        CHECK.part("promise 13");
        String[] maps = {"row 0123;", "row 02;", "row 020;", "row 13;", "row0;row2;", "row 00;row 02;", "row 02;row 20;", "row 00;row 20;", "row 303;row 030;", "row 0303;row 3030;row 0303;row 3030;row 0303;row 3030;", "row 1;beyond 3;"};
        int[] pairs = {0, 1, 2, 1, 1, 3, 4, 3, 7, 38, 0};
        for (int i = 0; i < maps.length; i++) {
            due("jars() of " + maps[i], Check.told(maps[i]).jars(), pairs[i]);
        }
    }

    private static void leastIs(String text, int changed, String heights) {
        GroundEdges g = Check.told(text);
        due("least(-1) of " + text, g.least(-1), changed);
        for (int n = 0; n < heights.length(); n++) {
            due("least(" + n + ") of " + text, g.least(n), heights.charAt(n) - '0');
        }
        due("count(7) behind least()", g.count(7), 1);
        due("no such cell of " + text, g.least(heights.length()), BAD);
    }

    private static void least() {
        CHECK.part("promise 14");
        GroundEdges g = Check.told("row 003;row 000;fix 0 0;fix 2 0;");
        for (int n : new int[] {-2, 6, LOW, HIGH}) {
            due("least(" + n + ")", g.least(n), BAD);
        }
        for (int n = -1; n < 6; n++) {
            due("least(" + n + ") without a way", g.least(n), NONE);
        }
        g.fixes(2, 0, 0);
        due("least(-1)", g.least(-1), 1);
        due("least(2)", g.least(2), 0);
        g.paints(0, 0, 0, 0, 2);
        due("least(-1), the map being another", g.least(-1), 4);
        due("least(0), the map being another", g.least(0), 2);
        Check.tell(g, "row 0;");
        due("least(-1), a new map", g.least(-1), 0);
        due("least(1), a new map", g.least(1), BAD);
    }

    private static void leastOfSeveral() {
        CHECK.part("promise 14, of several");
        leastIs("row 0123;", 0, "0123");
        leastIs("row 03;", 1, "00");
        leastIs("row 30;", 1, "00");
        leastIs("row 31;", 1, "01");
        leastIs("row 13;", 1, "10");
        leastIs("row 03;fix 1 0;", 1, "23");
        leastIs("row 03;fix 0 0;", 1, "00");
        leastIs("row 030;", 1, "000");
        leastIs("row 303;", 1, "323");
        leastIs("row 313;fix 1 0;", 2, "010");
        leastIs("row 0033;", 2, "0000");
        leastIs("row 0033;fix 3 0;", 2, "0123");
        leastIs("row0;row3;row3;", 1, "2 3 3".replace(" ", ""));
        leastIs("row 33;row 30;", 1, "3332");
        leastIs("row0;row0;row0;row3;fix 0 0;fix 0 3;", 2, "0123");
        leastIs("row 000;row 030;row 000;fix 1 1;", 8, "222232222");
        leastIs("row 0000;row 0000;row 0000;row 0000;row 0000;row 0003;", 1, "000000000000000000000000");
    }

    /** Maps that are alike but for W, H or FIXED, on one object. */
    private static void leastOfEachMapAnew() {
        CHECK.part("promise 14, one map behind another");
        String[] texts = {"row 3;", "row 30;", "row3;row0;", "row3;", "row 0123;", "row 01;row 23;", "row 01;row 23;fix 0 1;", "row0;row1;row2;row3;", "row 03;fix 0 0;", "row 03;fix 1 0;"};
        int[] changed = {0, 1, 1, 0, 0, 2, 2, 0, 1, 1};
        String[] heights = {"3", "00", "00", "3", "0123", "0100", "1121", "0123", "00", "23"};
        GroundEdges g = new GroundEdges();
        for (int i = 0; i < texts.length; i++) {
            Check.tell(g, texts[i]);
            due("least(-1) of " + texts[i], g.least(-1), changed[i]);
            for (int n = 0; n < heights[i].length(); n++) {
                due("least(" + n + ") of " + texts[i], g.least(n), heights[i].charAt(n) - '0');
            }
        }
    }

    private static void sees() {
        CHECK.part("promise 15");
        GroundEdges g = Check.told("row 33;");
        int[][] bad = {{0, 0}, {4, 0}, {1, -1}, {1, 47}, {1, -8}, {1, -10}, {-1, 0}, {LOW, 0}, {HIGH, 0}, {1, LOW}, {1, HIGH}};
        for (int[] a : bad) {
            due("sees" + java.util.Arrays.toString(a), g.sees(a[0], a[1]), BAD);
        }
        due("count(5)", g.count(5), 0);
        int[][] good = {{1, 46}, {2, 46}, {3, 46}, {1, 46}, {3, 46}, {3, 46}};
        for (int i = 0; i < 6; i++) {
            due("sees() " + i, g.sees(good[i][0], good[i][1]), i + 1);
        }
        due("the seventh", g.sees(1, 46), FULL);
        due("the seventh, wrong", g.sees(4, 46), BAD);
        due("count(5)", g.count(5), 6);
        due("which(0)", g.which(0), 2);
        due("forget()", g.forget(), 6);
        due("sees(2, 0)", g.sees(2, 0), 1);
        due("which(0)", g.which(0), 0);
        due("forget()", g.forget(), 1);
        due("sees(3, NONE)", g.sees(3, NONE), 1);
        due("which(0)", g.which(0), 0);
    }

    private static void forget() {
        CHECK.part("promise 16");
        GroundEdges g = Check.told("row 12;");
        due("forget() of none", g.forget(), 0);
        g.sees(2, NONE);
        g.sees(1, 0);
        due("which(0)", g.which(0), 0);
        due("forget()", g.forget(), 2);
        due("which(0)", g.which(0), 2);
        due("count(5)", g.count(5), 0);
        due("forget() again", g.forget(), 0);
    }

    private static void which() {
        CHECK.part("promise 17");
        GroundEdges g = Check.told("row 0123;row 0123;");
        for (int what : new int[] {-1, 2, LOW, HIGH}) {
            due("which(" + what + ")", g.which(what), BAD);
        }
        due("which(0)", g.which(0), 8);
        due("which(1)", g.which(1), 0);
        g.sees(1, 46);
        due("which(0)", g.which(0), 4);
        due("which(1)", g.which(1), 2);
        g.sees(3, NONE);
        due("which(0)", g.which(0), 2);
        due("which(1)", g.which(1), 2);
        g.sees(2, 46);
        due("which(0)", g.which(0), 0);
        due("which(1)", g.which(1), NONE);
        Check.tell(g, "row 22;");
        due("which(0), as the map is now", g.which(0), 2);
        due("which(1), as the map is now", g.which(1), 0);
        g.paints(0, 0, 0, 0, 3);
        due("which(0), painted", g.which(0), 1);
        due("which(1), painted", g.which(1), 1);
    }

    private static void lookIs(String text, int want) {
        due("look() in " + text, Check.told(text).look(), want);
    }

    private static void look() {
        CHECK.part("promise 18");
        lookIs("row 0;", NONE);
        lookIs("row 11;", 1);
        lookIs("row 0123;", 1);
        lookIs("row 1122;", 2);
        lookIs("row 2233;", 3);
        lookIs("row 0033;", 1);
        lookIs("row 0000;row 0111;row 0222;row 0123;", 1);
        GroundEdges g = Check.told("row 0123;row 0123;");
        g.sees(1, 46);
        due("look() of those SEEN", g.look(), 2);
        g.sees(2, 46);
        due("look() of two alike", g.look(), 1);
        g.sees(3, 46);
        due("look() of none", g.look(), NONE);
        due("forget()", g.forget(), 3);
        due("count(7)", g.count(7), 1);
    }

    private static void keep() {
        CHECK.part("promise 19");
        GroundEdges g = Check.told("row 01;row 23;row 12;fix 1 1;beyond 1;");
        for (int image : new int[] {-1, 2, LOW, HIGH}) {
            due("keep(" + image + ")", g.keep(image), BAD);
        }
        due("keep(0)", g.keep(0), 6);
        due("back(1)", g.back(1), STATE);
        due("count(7)", g.count(7), 1);
        Check.tell(g, "row 3;");
        due("keep(1)", g.keep(1), 1);
        due("back(0)", g.back(0), 6);
        CHECK.map("back(0)", g, "01 23 12");
        due("keep(1) over another", g.keep(1), 6);
        g.paints(0, 0, 0, 0, 3);
        due("back(1)", g.back(1), 6);
        CHECK.map("back(1)", g, "01 23 12");
    }

    private static void back() {
        CHECK.part("promise 20");
        GroundEdges g = Check.told("row 01;row 23;fix 1 1;beyond 1;");
        for (int image : new int[] {-1, 2, LOW, HIGH}) {
            due("back(" + image + ")", g.back(image), BAD);
        }
        due("back(0)", g.back(0), STATE);
        due("count(7)", g.count(7), 1);
        g.keep(0);
        Check.tell(g, "row 333;fix 0 0;");
        Check.type(g, "row");
        g.sees(1, 2);
        due("back(0)", g.back(0), 4);
        CHECK.map("back", g, "01 23");
        CHECK.fixed("back", g, "00 01");
        due("count(2)", g.count(2), 1);
        due("count(5)", g.count(5), 1);
        due("count(6)", g.count(6), 3);
        due("count(7)", g.count(7), 0);
        due("undo()", g.undo(), STATE);
        g.floods(0, 0, 3);
        due("undo()", g.undo(), 0);
        CHECK.map("undone", g, "01 23");
        g.paints(0, 0, 1, 1, 2);
        due("back(0) again", g.back(0), 4);
        CHECK.map("back again", g, "01 23");
    }

    private static void count() {
        CHECK.part("promise 21");
        GroundEdges g = Check.told("row 333;row 333;row 333;row 333;row 333;row 333;fix 2 5;fix 0 0;fix 2 5;beyond 0;");
        Check.type(g, "row 0");
        g.sees(1, 0);
        g.sees(1, 0);
        int[] counts = {3, 6, 0, 2, 54, 2, 5, 1};
        for (int what = 0; what < counts.length; what++) {
            due("count(" + what + ")", g.count(what), counts[what]);
        }
        for (int what : new int[] {-1, 8, LOW, HIGH}) {
            due("count(" + what + ")", g.count(what), BAD);
        }
        GroundEdges largest = Check.told("row 3333;row 3333;row 3333;row 3333;row 3333;row 3333;");
        due("count(0)", largest.count(0), 4);
        due("count(4)", largest.count(4), 72);
        due("cell(3, 5, 0)", largest.cell(3, 5, 0), 3);
    }
}
