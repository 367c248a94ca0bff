import java.util.ArrayDeque;
import java.util.ArrayList;
import java.util.Arrays;
import java.util.Deque;
import java.util.LinkedHashMap;
import java.util.List;
import java.util.Map;
import java.util.TreeSet;

/**
 * The document once more, as slow and plain as it can be said, with all of Java's library and by other
 * ways than the program's: the tests hold the program against it.
 */
final class Model {
    static final int BAD = -1, STATE = -2, FULL = -3, NONE = -9;

    record Ground(int[][] heights, boolean[][] fixed, Integer beyond) {
        Ground copy() {
            int[][] h = new int[heights.length][];
            boolean[][] f = new boolean[fixed.length][];
            for (int y = 0; y < h.length; y++) {
                h[y] = heights[y].clone();
                f[y] = fixed[y].clone();
            }
            return new Ground(h, f, beyond);
        }

        int w() {
            return heights[0].length;
        }

        int h() {
            return heights.length;
        }

        int cells() {
            return w() * h();
        }

        boolean has(int x, int y) {
            return x >= 0 && y >= 0 && x < w() && y < h();
        }

        int at(int n) {
            return heights[n / w()][n % w()];
        }
    }

    Ground ground = new Ground(new int[1][1], new boolean[1][1], null);
    StringBuilder text = new StringBuilder();
    Deque<Ground> past = new ArrayDeque<>();
    Ground[] images = new Ground[2];
    List<int[]> seen = new ArrayList<>();

    int type(int letter) {
        if (letter < 0 || letter > 255) {
            return BAD;
        }
        if (text.length() == 120) {
            return FULL;
        }
        text.append((char) letter);
        return text.length();
    }

    int clear() {
        int had = text.length();
        text.setLength(0);
        return had;
    }

    private record Token(int place, String letters) { }

    private List<Token> tokens() {
        List<Token> all = new ArrayList<>();
        java.util.regex.Matcher m = java.util.regex.Pattern.compile("[a-z]+|[0-9]+|[^ ]", java.util.regex.Pattern.DOTALL).matcher(text);
        while (m.find()) {
            all.add(new Token(m.start(), m.group()));
        }
        return all;
    }

    int tells() {
        List<Token> tokens = tokens();
        List<String> rows = new ArrayList<>();
        List<int[]> fixes = new ArrayList<>();
        Integer told = null;
        int items = 0;
        int i = 0;
        while (i < tokens.size()) {
            Token word = tokens.get(i++);
            int wants;
            switch (word.letters) {
                case "row" -> {
                    if (rows.size() == 6 || !fixes.isEmpty()) {
                        return -10 - word.place;
                    }
                    wants = 1;
                }
                case "fix" -> {
                    if (rows.isEmpty()) {
                        return -10 - word.place;
                    }
                    wants = 2;
                }
                case "beyond" -> {
                    if (told != null) {
                        return -10 - word.place;
                    }
                    wants = 1;
                }
                default -> {
                    return -10 - word.place;
                }
            }
            int[] fix = new int[2];
            for (int k = 0; k < wants; k++) {
                if (i == tokens.size()) {
                    return -10 - text.length();
                }
                Token t = tokens.get(i++);
                boolean can = switch (word.letters) {
                    case "row" -> t.letters.matches("[0-3]{1,4}") && (rows.isEmpty() || rows.get(0).length() == t.letters.length());
                    case "fix" -> t.letters.matches("[0-9]") && Integer.parseInt(t.letters) < (k == 0 ? rows.get(0).length() : rows.size());
                    default -> t.letters.matches("[0-3]");
                };
                if (!can) {
                    return -10 - t.place;
                }
                if (word.letters.equals("row")) {
                    rows.add(t.letters);
                } else if (word.letters.equals("fix")) {
                    fix[k] = Integer.parseInt(t.letters);
                } else {
                    told = Integer.parseInt(t.letters);
                }
            }
            if (i == tokens.size()) {
                return -10 - text.length();
            }
            Token end = tokens.get(i++);
            if (!end.letters.equals(";")) {
                return -10 - end.place;
            }
            if (wants == 2) {
                fixes.add(fix);
            }
            items++;
        }
        if (rows.isEmpty()) {
            return -10 - text.length();
        }
        int[][] h = new int[rows.size()][rows.get(0).length()];
        boolean[][] f = new boolean[rows.size()][rows.get(0).length()];
        for (int y = 0; y < h.length; y++) {
            for (int x = 0; x < h[y].length; x++) {
                h[y][x] = rows.get(y).charAt(x) - '0';
            }
        }
        for (int[] fix : fixes) {
            f[fix[1]][fix[0]] = true;
        }
        remember();
        ground = new Ground(h, f, told);
        text.setLength(0);
        return items;
    }

    private void remember() {
        past.addLast(ground.copy());
        if (past.size() > 6) {
            past.removeFirst();
        }
    }

    int paints(int x, int y, int x2, int y2, int height) {
        if (!ground.has(x, y) || !ground.has(x2, y2) || x2 < x || y2 < y || height < 0 || height > 3) {
            return BAD;
        }
        List<int[]> others = new ArrayList<>();
        for (int b = y; b <= y2; b++) {
            for (int a = x; a <= x2; a++) {
                if (ground.heights[b][a] != height) {
                    others.add(new int[] {a, b});
                }
            }
        }
        if (others.isEmpty()) {
            return STATE;
        }
        remember();
        for (int[] o : others) {
            ground.heights[o[1]][o[0]] = height;
        }
        return others.size();
    }

    int floods(int x, int y, int height) {
        if (!ground.has(x, y) || height < 0 || height > 3) {
            return BAD;
        }
        int old = ground.heights[y][x];
        if (old == height) {
            return STATE;
        }
        remember();
        return pour(x, y, old, height);
    }

    private int pour(int x, int y, int old, int height) {
        if (!ground.has(x, y) || ground.heights[y][x] != old) {
            return 0;
        }
        ground.heights[y][x] = height;
        return 1 + pour(x + 1, y, old, height) + pour(x - 1, y, old, height) + pour(x, y + 1, old, height) + pour(x, y - 1, old, height);
    }

    int settles() {
        if (jars() == 0) {
            return STATE;
        }
        int[] least = leastChange(ground);
        if (least == null) {
            return STATE;
        }
        int changed = changes(ground, least);
        remember();
        for (int n = 0; n < least.length; n++) {
            ground.heights[n / ground.w()][n % ground.w()] = least[n];
        }
        return changed;
    }

    int fixes(int x, int y, int is) {
        if (!ground.has(x, y) || is != 0 && is != 1) {
            return BAD;
        }
        if (ground.fixed[y][x] == (is == 1)) {
            return STATE;
        }
        remember();
        ground.fixed[y][x] = is == 1;
        return count(3);
    }

    int undo() {
        if (past.isEmpty()) {
            return STATE;
        }
        ground = past.removeLast();
        return past.size();
    }

    int cell(int x, int y, int what) {
        if (!ground.has(x, y) || what < 0 || what > 2) {
            return BAD;
        }
        if (what == 0) {
            return ground.heights[y][x];
        }
        if (what == 1) {
            return ground.fixed[y][x] ? 1 : 0;
        }
        return new ArrayList<>(kinds().keySet()).indexOf(rowOf(x, y));
    }

    private static final int[][] STEPS = {{0, -1}, {1, -1}, {1, 0}, {1, 1}, {0, 1}, {-1, 1}, {-1, 0}, {-1, -1}};

    private boolean isOf(int x, int y, int layer) {
        if (ground.has(x, y)) {
            return ground.heights[y][x] >= layer;
        }
        if (ground.beyond != null) {
            return ground.beyond >= layer;
        }
        int a = x < 0 ? 0 : x >= ground.w() ? ground.w() - 1 : x;
        int b = y < 0 ? 0 : y >= ground.h() ? ground.h() - 1 : y;
        return ground.heights[b][a] >= layer;
    }

    private static int mask(boolean[] around) {
        int mask = 0;
        for (int k = 0; k < 8; k++) {
            boolean counts = around[k] && (k % 2 == 0 || around[k - 1] && around[(k + 1) % 8]);
            mask += counts ? (int) Math.round(Math.pow(2, k)) : 0;
        }
        return mask;
    }

    static TreeSet<Integer> allMasks() {
        TreeSet<Integer> all = new TreeSet<>();
        for (int m = 0; m < 256; m++) {
            boolean[] around = new boolean[8];
            for (int k = 0; k < 8; k++) {
                around[k] = (m >> k & 1) == 1;
            }
            all.add(mask(around));
        }
        return all;
    }

    private static final TreeSet<Integer> MASKS = allMasks();

    private int maskOf(int x, int y, int layer) {
        boolean[] around = new boolean[8];
        for (int k = 0; k < 8; k++) {
            around[k] = isOf(x + STEPS[k][0], y + STEPS[k][1], layer);
        }
        return mask(around);
    }

    private int squareOf(int x, int y, int layer) {
        return isOf(x, y, layer) ? MASKS.headSet(maskOf(x, y, layer)).size() : NONE;
    }

    int square(int x, int y, int layer, int what) {
        if (!ground.has(x, y) || layer < 1 || layer > 3 || what < 0 || what > 1) {
            return BAD;
        }
        return what == 0 ? maskOf(x, y, layer) : squareOf(x, y, layer);
    }

    private List<Integer> rowOf(int x, int y) {
        return List.of(squareOf(x, y, 1), squareOf(x, y, 2), squareOf(x, y, 3));
    }

    private Map<List<Integer>, Integer> kinds() {
        Map<List<Integer>, Integer> kinds = new LinkedHashMap<>();
        for (int n = 0; n < ground.cells(); n++) {
            kinds.merge(rowOf(n % ground.w(), n / ground.w()), 1, Integer::sum);
        }
        return kinds;
    }

    int kind(int k, int what) {
        Map<List<Integer>, Integer> kinds = kinds();
        if (k == -1) {
            return what == 0 ? kinds.size() : -5;
        }
        if (k < 0 || k >= kinds.size() || what < 0 || what > 3) {
            return -5;
        }
        List<Integer> row = new ArrayList<>(kinds.keySet()).get(k);
        return what == 0 ? kinds.get(row) : row.get(what - 1);
    }

    private static int apart(Ground g, int n, int m) {
        return Math.max(Math.abs(n % g.w() - m % g.w()), Math.abs(n / g.w() - m / g.w()));
    }

    private static int jarring(Ground g, int[] heights) {
        int pairs = 0;
        for (int n = 0; n < heights.length; n++) {
            for (int m = n + 1; m < heights.length; m++) {
                if (apart(g, n, m) == 1 && Math.abs(heights[n] - heights[m]) > 1) {
                    pairs++;
                }
            }
        }
        return pairs;
    }

    private static int[] row(Ground g) {
        int[] row = new int[g.cells()];
        for (int n = 0; n < row.length; n++) {
            row[n] = g.at(n);
        }
        return row;
    }

    int jars() {
        return jarring(ground, row(ground));
    }

    private static int changes(Ground g, int[] heights) {
        int changed = 0;
        for (int n = 0; n < heights.length; n++) {
            changed += heights[n] != g.at(n) ? 1 : 0;
        }
        return changed;
    }

    static int[] leastChange(Ground g) {
        return g.cells() <= 4 ? leastOfAll(g) : leastByPairs(g);
    }

    /** All ways, one after another. */
    static int[] leastOfAll(Ground g) {
        int[] best = null;
        int cells = g.cells();
        for (int way = 0; way < 1 << 2 * cells; way++) {
            int[] heights = new int[cells];
            boolean can = true;
            for (int n = 0; n < cells; n++) {
                heights[n] = way >> 2 * (cells - 1 - n) & 3;
                can &= !g.fixed[n / g.w()][n % g.w()] || heights[n] == g.at(n);
            }
            if (can && jarring(g, heights) == 0 && (best == null || changes(g, heights) < changes(g, best))) {
                best = heights;
            }
        }
        return best;
    }

    /**
     * Some cells being given, the others can be found if no two given ones are further apart in height
     * than in place. So the fewest changes are the fewest cells that take one of each pair that is; such
     * a pair has one height of 0, 1 and one of 2, 3: as many as can be paired off.
     */
    static int[] leastByPairs(Ground g) {
        Integer[] given = new Integer[g.cells()];
        for (int n = 0; n < given.length; n++) {
            given[n] = g.fixed[n / g.w()][n % g.w()] ? g.at(n) : null;
        }
        int fewest = fewest(g, given);
        if (fewest < 0) {
            return null;
        }
        for (int n = 0; n < given.length; n++) {
            for (int h = 0; h < 4 && given[n] == null; h++) {
                given[n] = h;
                if (fewest(g, given) != fewest) {
                    given[n] = null;
                }
            }
        }
        return Arrays.stream(given).mapToInt(h -> h).toArray();
    }

    private static boolean clash(Ground g, int n, int heightN, int m, int heightM) {
        return Math.abs(heightN - heightM) > apart(g, n, m);
    }

    private static int fewest(Ground g, Integer[] given) {
        int cells = given.length;
        int changed = 0;
        boolean[] stays = new boolean[cells];
        for (int n = 0; n < cells; n++) {
            boolean clashes = false;
            int height = given[n] != null ? given[n] : g.at(n);
            for (int m = 0; m < cells; m++) {
                clashes |= m != n && given[m] != null && clash(g, n, height, m, given[m]);
            }
            if (clashes && given[n] != null) {
                return -1;
            }
            stays[n] = given[n] == null && !clashes;
            changed += clashes || height != g.at(n) ? 1 : 0;
        }
        int[] mate = new int[cells];
        Arrays.fill(mate, -1);
        for (int n = 0; n < cells; n++) {
            if (stays[n] && g.at(n) < 2 && pairsOff(g, n, stays, mate, new boolean[cells])) {
                changed++;
            }
        }
        return changed;
    }

    private static boolean pairsOff(Ground g, int n, boolean[] stays, int[] mate, boolean[] tried) {
        for (int m = 0; m < mate.length; m++) {
            if (stays[m] && !tried[m] && g.at(m) >= 2 && clash(g, n, g.at(n), m, g.at(m))) {
                tried[m] = true;
                if (mate[m] < 0 || pairsOff(g, mate[m], stays, mate, tried)) {
                    mate[m] = n;
                    return true;
                }
            }
        }
        return false;
    }

    int least(int n) {
        if (n < -1 || n >= ground.cells()) {
            return BAD;
        }
        int[] least = leastChange(ground);
        if (least == null) {
            return NONE;
        }
        return n == -1 ? changes(ground, least) : least[n];
    }

    int sees(int layer, int square) {
        if (layer < 1 || layer > 3 || square != NONE && (square < 0 || square > 46)) {
            return BAD;
        }
        if (seen.size() == 6) {
            return FULL;
        }
        seen.add(new int[] {layer, square});
        return seen.size();
    }

    int forget() {
        int had = seen.size();
        seen.clear();
        return had;
    }

    private List<Integer> fitting() {
        List<Integer> all = new ArrayList<>();
        for (int n = 0; n < ground.cells(); n++) {
            int x = n % ground.w();
            int y = n / ground.w();
            if (seen.stream().allMatch(s -> squareOf(x, y, s[0]) == s[1])) {
                all.add(n);
            }
        }
        return all;
    }

    int which(int what) {
        if (what != 0 && what != 1) {
            return BAD;
        }
        List<Integer> all = fitting();
        return what == 0 ? all.size() : all.isEmpty() ? NONE : all.get(0);
    }

    int look() {
        List<Integer> all = fitting();
        if (all.size() <= 1) {
            return NONE;
        }
        int best = 0;
        int least = 1000;
        for (int layer = 1; layer <= 3; layer++) {
            Map<Integer, Integer> groups = new LinkedHashMap<>();
            for (int n : all) {
                groups.merge(squareOf(n % ground.w(), n / ground.w(), layer), 1, Integer::sum);
            }
            int most = groups.values().stream().mapToInt(i -> i).max().getAsInt();
            if (most < least) {
                least = most;
                best = layer;
            }
        }
        return best;
    }

    int keep(int image) {
        if (image != 0 && image != 1) {
            return BAD;
        }
        images[image] = ground.copy();
        return ground.cells();
    }

    int back(int image) {
        if (image != 0 && image != 1) {
            return BAD;
        }
        if (images[image] == null) {
            return STATE;
        }
        ground = images[image].copy();
        past.clear();
        return ground.cells();
    }

    int count(int what) {
        switch (what) {
            case 0:
                return ground.w();
            case 1:
                return ground.h();
            case 2:
                return ground.beyond == null ? NONE : ground.beyond;
            case 3:
                int fixed = 0;
                for (boolean[] row : ground.fixed) {
                    for (boolean is : row) {
                        fixed += is ? 1 : 0;
                    }
                }
                return fixed;
            case 4:
                return Arrays.stream(row(ground)).sum();
            case 5:
                return seen.size();
            case 6:
                return text.length();
            case 7:
                return past.size();
            default:
                return BAD;
        }
    }
}
