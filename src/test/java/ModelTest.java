import java.util.Random;

/** Long runs of calls, with ordinary and wild arguments, each answer held against the model's. */
public final class ModelTest {
    private static final int RUNS = 2000;
    private static final int CALLS = 512;
    private static final int[] WILD = {Integer.MIN_VALUE, -10, -9, -5, -2, -1, 4, 6, 7, 47, 256, Integer.MAX_VALUE};

    private final Check check = new Check();
    private final Random random = new Random(20261117);
    private GroundEdges program;
    private Model model;
    private int calls;

    public static void main(String[] args) {
        ModelTest test = new ModelTest();
        test.modelAgreesWithItself();
        for (int run = 1; run <= RUNS && !test.check.anyWrong(); run++) {
            test.run(run);
        }
        test.check.end();
    }

    /** The model's two ways to LEAST CHANGE, one of which is just a walk through all ways. */
    private void modelAgreesWithItself() {
        check.part("the model");
        for (int i = 0; i < 400; i++) {
            int w = 1 + random.nextInt(4);
            int h = 1 + random.nextInt(Math.max(1, 6 / w));
            int[][] heights = new int[h][w];
            boolean[][] fixed = new boolean[h][w];
            for (int n = 0; n < w * h; n++) {
                heights[n / w][n % w] = random.nextInt(4);
                fixed[n / w][n % w] = random.nextInt(4) == 0;
            }
            Model.Ground ground = new Model.Ground(heights, fixed, null);
            check.isTrue("least change of map " + i, java.util.Arrays.equals(Model.leastOfAll(ground), Model.leastByPairs(ground)));
        }
    }

    private void run(int run) {
        check.part("run " + run);
        program = new GroundEdges();
        model = new Model();
        calls = 0;
        while (calls < CALLS && !check.anyWrong()) {
            if (calls % 128 == 0 && run % 8 != 0) {
                tellText();
            }
            call();
        }
    }

    private void same(String call, java.util.function.IntSupplier got, int want) {
        calls++;
        check.dueFrom(call, got, want);
    }

    private int near(int below) {
        return random.nextInt(24) == 0 ? WILD[random.nextInt(WILD.length)] : random.nextInt(below);
    }

    private int column() {
        return near(model.ground.w());
    }

    private int row() {
        return near(model.ground.h());
    }

    private void tellText() {
        same("clear()", () -> program.clear(), model.clear());
        for (char letter : text().toCharArray()) {
            same("type(" + (int) letter + ")", () -> program.type(letter), model.type(letter));
        }
        String told = model.text.toString();
        same("tells() of " + told, () -> program.tells(), model.tells());
    }

    private String gap() {
        return random.nextInt(6) == 0 ? " " : "";
    }

    private String text() {
        StringBuilder text = new StringBuilder();
        int w = 1 + random.nextInt(4);
        int h = 1 + random.nextInt(6);
        if (random.nextInt(4) == 0) {
            text.append("beyond").append(random.nextInt(4)).append(";");
        }
        for (int y = 0; y < h; y++) {
            text.append(gap()).append("row").append(gap());
            for (int x = 0; x < w; x++) {
                text.append(random.nextInt(4));
            }
            text.append(gap()).append(";");
        }
        for (int fixes = random.nextInt(5); fixes > 0; fixes--) {
            text.append("fix").append(gap()).append(random.nextInt(w)).append(" ").append(random.nextInt(h)).append(gap()).append(";");
        }
        if (random.nextInt(4) == 0 && text.indexOf("beyond") < 0) {
            text.append("beyond ").append(random.nextInt(4)).append(";");
        }
        if (random.nextInt(6) == 0) {
            spoil(text);
        }
        return text.toString();
    }

    private void spoil(StringBuilder text) {
        int place = random.nextInt(text.length());
        switch (random.nextInt(4)) {
            case 0 -> text.setLength(place);
            case 1 -> text.deleteCharAt(place);
            case 2 -> text.insert(place, "row; fix0149beyond A".charAt(random.nextInt(20)));
            default -> text.setCharAt(place, (char) random.nextInt(256));
        }
    }

    private void call() {
        switch (random.nextInt(40)) {
            case 0 -> {
                int letter = random.nextInt(8) == 0 ? WILD[random.nextInt(WILD.length)] : random.nextInt(256);
                same("type(" + letter + ")", () -> program.type(letter), model.type(letter));
            }
            case 1 -> {
                if (random.nextInt(5) == 0) {
                    same("tells()", () -> program.tells(), model.tells());
                }
            }
            case 2, 3, 4 -> {
                int x = column(), y = row(), x2 = column(), y2 = row(), height = near(4);
                int a = Math.min(x, x2), b = Math.max(x, x2);
                same("paints(" + a + ", " + y + ", " + b + ", " + y2 + ", " + height + ")", () -> program.paints(a, y, b, y2, height), model.paints(a, y, b, y2, height));
            }
            case 5, 6, 7 -> {
                int x = column(), y = row(), height = near(4);
                same("floods(" + x + ", " + y + ", " + height + ")", () -> program.floods(x, y, height), model.floods(x, y, height));
            }
            case 8 -> {
                if (random.nextInt(3) == 0) {
                    same("settles()", () -> program.settles(), model.settles());
                }
            }
            case 9, 10 -> {
                int x = column(), y = row(), is = near(2);
                same("fixes(" + x + ", " + y + ", " + is + ")", () -> program.fixes(x, y, is), model.fixes(x, y, is));
            }
            case 11, 12 -> same("undo()", () -> program.undo(), model.undo());
            case 13, 14, 15 -> {
                int x = column(), y = row(), what = near(3);
                same("cell(" + x + ", " + y + ", " + what + ")", () -> program.cell(x, y, what), model.cell(x, y, what));
            }
            case 16, 17, 18, 19 -> {
                int x = column(), y = row(), layer = 1 + near(3), what = near(2);
                same("square(" + x + ", " + y + ", " + layer + ", " + what + ")", () -> program.square(x, y, layer, what), model.square(x, y, layer, what));
            }
            case 20, 21, 22 -> {
                int k = near(12) - 1, what = near(4);
                same("kind(" + k + ", " + what + ")", () -> program.kind(k, what), model.kind(k, what));
            }
            case 23 -> same("jars()", () -> program.jars(), model.jars());
            case 24, 25, 26 -> {
                int n = near(model.ground.cells() + 1) - 1;
                same("least(" + n + ")", () -> program.least(n), model.least(n));
            }
            case 27, 28 -> {
                sees();
            }
            case 29 -> same("forget()", () -> program.forget(), model.forget());
            case 30, 31 -> {
                int what = near(2);
                same("which(" + what + ")", () -> program.which(what), model.which(what));
            }
            case 32, 33 -> same("look()", () -> program.look(), model.look());
            case 34 -> {
                int image = near(2);
                same("keep(" + image + ")", () -> program.keep(image), model.keep(image));
            }
            case 35 -> {
                int image = near(2);
                if (random.nextInt(4) == 0) {
                    same("back(" + image + ")", () -> program.back(image), model.back(image));
                }
            }
            default -> {
                int what = near(8);
                same("count(" + what + ")", () -> program.count(what), model.count(what));
            }
        }
    }

    /** Mostly what some cell has, so that more than one call of which() finds a cell. */
    private void sees() {
        int layer = 1 + near(3);
        int some = model.square(random.nextInt(model.ground.w()), random.nextInt(model.ground.h()), layer, 1);
        int square = random.nextInt(8) == 0 ? near(47) : some;
        same("sees(" + layer + ", " + square + ")", () -> program.sees(layer, square), model.sees(layer, square));
    }
}
